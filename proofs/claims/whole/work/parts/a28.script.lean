section D58
/-! ===== runScript ===== -/
variable {T : Nat → Nat} {L : Nat} {N : Nat → Nat} {Q P : Nat → Nat → Int32} {s t : ga_M} {m : Nat} {H : Nat → Nat → Nat → Int32}
theorem tE_gt (hT : tOk T L) {st : Nat} (h : st < L) : st < tE T L st := by
  have hL := hT.1
  unfold tE
  rw [if_neg (by omega)]
  by_cases c1 : tLe (tB T L st) = true
  · rw [if_pos c1]
    have hr := tRun_spec (T := T) (L := L) (p := tLe) rfl 901 st (by omega) (by omega)
    by_cases e : tRun tLe T L 901 st = st
    · rw [e, c1] at hr; exact absurd hr.2.2.1 (by decide)
    · omega
  · rw [if_neg c1]
    by_cases c2 : tDi (tB T L st) = true
    · rw [if_pos c2]
      have hr := tRun_spec (T := T) (L := L) (p := tDi) rfl 901 st (by omega) (by omega)
      by_cases e : tRun tDi T L 901 st = st
      · rw [e, c2] at hr; exact absurd hr.2.2.1 (by decide)
      · omega
    · rw [if_neg c2]; omega
theorem tX_gt (hT : tOk T L) {st : Nat} (h : st < L) : st < tX T L st := by
  have h1 := tE_gt hT h
  have hE := tE_le (T := T) hT.1 (show st ≤ L by omega)
  have hS := tS_le (T := T) hT.1 hE.2
  unfold tX; omega
theorem c_stop (n : Nat) (l1 l3 : Int32) (s : ga_M) : f_X11_runScript_h20 (n + 1) l1 0 l3 s = (f_X1_restoreMarked (ga_up s 45 1 0)).bind fun s103 => some (-1, s103) := by
  rw [f_X11_runScript_h20]
  dsimp only
  rw [if_pos rfl, if_pos rfl]
  split <;> rfl
theorem z_h22 (h : mZ t) (n : Nat) (l : Int32) : f_X12_runScript_h22 (n + 1) l t = (f_X12_copyRow_76_75 t).bind fun s => some (-1, s) := by
  rw [f_X12_runScript_h22, if_neg (z_ne h), if_neg (z_le h)]
def rOut (N : Nat → Nat) (Q : Nat → Nat → Int32) (s t : ga_M) (c m : Option (Int32 × ga_M)) : Prop :=
  (∃ v P2 s2 t2, c = ((f_X1_keepMarked (ga_up s2 45 1 0)).bind fun s102 => some (v, s102)) ∧ m = ((f_X12_push t2).bind fun s103 => some (v, s103)) ∧ dW N Q P2 ∧ dC N Q P2 s2 ∧ dM N Q P2 t2 ∧ s2 45 6 = t2 72 16 ∧ s2 45 7 = t2 72 17 ∧ sFc s s2 ∧ sFm t t2) ∨
  ∃ s2 t2, c = ((f_X1_restoreMarked (ga_up s2 45 1 0)).bind fun s103 => some (-1, s103)) ∧ m = ((f_X12_copyRow_76_75 t2).bind fun s => some (-1, s)) ∧ s2 45 6 = t2 72 16 ∧ s2 45 7 = t2 72 17 ∧ sFc s s2 ∧ sFm t t2
theorem rOut_pre {s0 t0 : ga_M} {c m : Option (Int32 × ga_M)} (hc : sFc s0 s) (hm : sFm t0 t) (h : rOut N Q s t c m) : rOut N Q s0 t0 c m := by
  rcases h with ⟨v, P2, s2, t2, a1, a2, a3, a4, a5, a6, a7, a8, a9⟩ | ⟨s2, t2, a1, a2, a3, a4, a5, a6⟩
  · exact Or.inl ⟨v, P2, s2, t2, a1, a2, a3, a4, a5, a6, a7, sFc_trans hc a8, sFm_trans hm a9⟩
  · exact Or.inr ⟨s2, t2, a1, a2, a3, a4, sFc_trans hc a5, sFm_trans hm a6⟩
theorem l_run (hT : tOk T L) : ∀ (r k n1 n2 st : Nat) (P : Nat → Nat → Int32) (s t : ga_M), L - st ≤ r → r + 2 < n1 → r + 2 < n2 → k ≤ st → dW N Q P → tOkay T L st s t → dC N Q P s → dM N Q P t →
    rOut N Q s t (f_X11_runScript_h20 n1 (nI k) 1 (nI k) s) (f_X12_runScript_h22 n2 (nI k) t) := by
  have hL := hT.1
  have fin : ∀ (k n1 n2 st : Nat) (P : Nat → Nat → Int32) (s t : ga_M), L ≤ st → k ≤ st → dW N Q P → tOkay T L st s t → dC N Q P s → dM N Q P t →
      rOut N Q s t (f_X11_runScript_h20 (n1 + 1) (nI k) 1 (nI k) s) (f_X12_runScript_h22 (n2 + 1) (nI k) t) := by
    intro k n1 n2 st P s t hl hk hW h hC hM
    have hst := h.1.2.1
    refine Or.inl ⟨nI k, P, s, t, ?_, ?_, hW, hC, hM, by rw [h.2.2.1, h.2.2.2.2.1], by rw [h.2.2.2.1, h.2.2.2.2.2], sFc_refl s, sFm_refl t⟩
    · rw [f_X11_runScript_h20]
      dsimp only
      rw [h.1.2.2.1, tK0.mpr hl, if_pos (show nI 0 = 0 from rfl), if_neg (show ¬ (1 : Int32) = 0 by decide), if_neg (show ¬ (1 : Int32) = 0 by decide)]
      split <;> rfl
    · rw [f_X12_runScript_h22, h.2.2.2.2.1, if_pos rfl, h.2.1.1.1, h.2.1.2.2.1, if_pos (nI_le hl (by omega)), if_pos (show (0 : Int32) ≤ 0 by decide)]
  intro r
  induction r with
  | zero =>
    intro k n1 n2 st P s t hr hn1 hn2 hk hW h hC hM
    obtain ⟨n1, rfl⟩ : ∃ j, n1 = j + 1 := ⟨n1 - 1, by omega⟩
    obtain ⟨n2, rfl⟩ : ∃ j, n2 = j + 1 := ⟨n2 - 1, by omega⟩
    exact fin k n1 n2 st P s t (by omega) hk hW h hC hM
  | succ r ih =>
    intro k n1 n2 st P s t hr hn1 hn2 hk hW h hC hM
    obtain ⟨n1, rfl⟩ : ∃ j, n1 = j + 1 + 1 := ⟨n1 - 2, by omega⟩
    obtain ⟨n2, rfl⟩ : ∃ j, n2 = j + 1 + 1 := ⟨n2 - 2, by omega⟩
    by_cases hl : L ≤ st
    · exact fin k (n1 + 1) (n2 + 1) st P s t hl hk hW h hC hM
    · have hlt : st < L := by omega
      have hk0 : tK T L st ≠ 0 := fun q => hl (tK0.mp q)
      have h5 := tK_lt T L st
      rw [f_X11_runScript_h20, f_X12_runScript_h22]
      dsimp only
      rw [if_neg (show ¬ (900 : Int32) ≤ nI k from nI_ge (b := 900) (by omega) (by omega)), if_neg (show ¬ (1 : Int32) = 0 by decide), h.1.2.2.1, if_neg (show ¬ nI (tK T L st) = 0 from nI_ne0 (by omega) (by omega)), h.2.2.2.2.1, if_pos rfl, h.2.1.1.1, h.2.1.2.2.1, if_neg (nI_ge hlt (by omega)), d_p1]
      -- behind an error
      have bad : ∀ (s1 t2 : ga_M), sBad T L s1 t2 → sFc s s1 → sFm t t2 → ∃ s3, f_X10_next s1 = some s3 ∧ f_X12_goOn t2 = some t2 ∧ rOut N Q s t (f_X11_runScript_h20 (n1 + 1) (nI (k + 1)) 0 (nI (k + 1)) s3) (f_X12_runScript_h22 (n2 + 1) (nI (k + 1)) t2) := by
        intro s1 t2 ⟨hX, ⟨e, he, h4⟩, hb⟩ f1 f2
        obtain ⟨s3, e3, k3, f3, g6, g7⟩ := c_next hT he hX h4
        refine ⟨s3, e3, z_goOn hb.2.2, Or.inr ⟨s3, t2, c_stop _ _ _ _, z_h22 hb.2.2 _ _, by rw [g6]; exact hb.1, by rw [g7]; exact hb.2.1, sFc_trans f1 (fun x x1 _ _ => f3 x x1), f2⟩⟩
      obtain ⟨t2, g1, g2, g3⟩ := l_step hT hW h hC hM
      rw [g1, Option.bind_some]
      rcases g3 with ⟨P2, s1, q, st2, a1, a2, a3, a4, a5, a6, a7, a8, a9⟩ | ⟨s1, a1, a2, a3⟩ | ⟨s1, q, s2, a1, a2, a3, a4, a5⟩
      · rw [a1, Option.bind_some]
        dsimp only
        rw [if_neg (show ¬ (1 : Int32) = 0 by decide), a2, Option.bind_some]
        dsimp only
        rw [if_neg (show ¬ (1 : Int32) = 0 by decide)]
        obtain ⟨s3, t3, b1, _, b2, _, b3, b4, b5⟩ := l_go hT a6
        rw [b1, b2, Option.bind_some, Option.bind_some]
        have hgt := tX_gt hT a5
        refine rOut_pre (sFc_trans a9 (sFc_t b4)) (sFm_trans g2 (sFm_m b5)) ?_
        exact ih (k + 1) (n1 + 1) (n2 + 1) (tX T L st2) P2 s3 t3 (by omega) (by omega) (by omega) (by omega) a3 b3 (dC_lt (fun x hx => b4 x (by omega)) a7) (dM_cong (b5.1 73 (by omega)) (b5.1 75 (by omega)) a8)
      · rw [a1, Option.bind_some]
        dsimp only
        rw [if_pos rfl]
        obtain ⟨s3, b1, b2, b3⟩ := bad s1 t2 a2 a3 g2
        rw [b1, b2, Option.bind_some, Option.bind_some]
        exact b3
      · rw [a1, Option.bind_some]
        dsimp only
        rw [if_neg (show ¬ (1 : Int32) = 0 by decide), a2, Option.bind_some]
        dsimp only
        rw [if_pos rfl, a3]
        dsimp only
        obtain ⟨s3, b1, b2, b3⟩ := bad s2 t2 a4 a5 g2
        rw [b1, b2, Option.bind_some, Option.bind_some]
        exact b3
/-- what both come to, from the states that begin to read -/
theorem l_fin (hW : dW N Q P) (hX : dWH N m H) (hC : dC N Q P s) (hm : dCHm N m H P s) (hM : dM N Q P t) (hh : dMH N m H t) (h76 : dMl N P t 76 0) {c mm : Option (Int32 × ga_M)} (h : rOut N Q s t c mm) :
    ∃ v sF tF P2 m2 H2, c = some (v, sF) ∧ mm = some (v, tF) ∧ dW N Q P2 ∧ dWH N m2 H2 ∧ dC N Q P2 sF ∧ dM N Q P2 tF ∧ dCH N m2 H2 sF ∧ dMH N m2 H2 tF ∧ sF 45 1 = 0 ∧ sF 45 6 = tF 72 16 ∧ sF 45 7 = tF 72 17 ∧ (∀ c, 46 ≤ c → c ≠ 68 → sF c = s c) ∧ (∀ c, c ≠ 72 → c ≠ 75 → c ≠ 77 → c ≠ 78 → c ≠ 79 → tF c = t c) ∧ (∀ f, f = 12 ∨ f = 19 → tF 72 f = t 72 f) := by
  have hNw := hW.1
  have hB := dWN_b hNw
  have hN6 : N 6 ≤ 40 := by omega
  have hm10 : m ≤ 10 := hh.1
  rcases h with ⟨v, P2, s2, t2, a1, a2, a3, a4, a5, a6, a7, a8, a9⟩ | ⟨s2, t2, a1, a2, a6, a7, a8, a9⟩
  · have hm2 : dCHm N m H P (ga_up s2 45 1 0) := dCHm_cong (by rw [d_up_ne (by omega), a8 42 (by omega) (by omega) (by omega)]) (by rw [d_up_ne (by omega), a8 44 (by omega) (by omega) (by omega)]) hm
    obtain ⟨sF, e1, f1, g1⟩ := dc_keep hm2
    have hh2 : dMH N m H t2 := dMH_cong (a9.2 5 (by omega) (by omega) (by omega) (by omega) (by omega) (by omega)) (a9.1 77 (by omega) (by omega) (by omega) (by omega)) hh
    have h762 : dMl N P t2 76 0 := dMl_cong hN6 (fun i _ => by rw [a9.1 76 (by omega) (by omega) (by omega) (by omega)]) h76
    obtain ⟨tF, e2, f2, f3, g2⟩ := dm_push hN6 hh2 h762
    refine ⟨v, sF, tF, P2, hN m, hH m H P, by rw [a1, e1]; rfl, by rw [a2, e2]; rfl, a3, dWH_push hX hm10 hW.2.2, dC_lt (fun c hc => by rw [f1 c (by omega), d_up_ne (by omega)]) a4, dM_cong (f2 73 (by omega) (by omega)) (f2 75 (by omega) (by omega)) a5, g1, g2, ?_, ?_, ?_, fun c c1 c2 => ?_, fun c c1 c2 c3 c4 c5 => ?_, fun f hf => ?_⟩
    · rw [f1 45 (by omega), d_up_eq]
    · rw [f1 45 (by omega), d_up_nk (by omega), f3 16 (by omega)]; exact a6
    · rw [f1 45 (by omega), d_up_nk (by omega), f3 17 (by omega)]; exact a7
    · rw [f1 c (by omega), d_up_ne (by omega), a8 c (by omega) c2 (by omega)]
    · rw [f2 c c1 c3, a9.1 c c1 c2 c4 c5]
    · rw [f3 f (by omega), a9.2 f (by omega) (by omega) (by omega) (by omega) (by omega) (by omega)]
  · have hm2 : dCHm N m H P (ga_up s2 45 1 0) := dCHm_cong (by rw [d_up_ne (by omega), a8 42 (by omega) (by omega) (by omega)]) (by rw [d_up_ne (by omega), a8 44 (by omega) (by omega) (by omega)]) hm
    obtain ⟨sF, e1, f1, g1⟩ := dc_restore hN6 hm2
    obtain ⟨tF, e2, f2, f3⟩ := dm_copy_back t2
    have h762 : dMl N P t2 76 0 := dMl_cong hN6 (fun i _ => by rw [a9.1 76 (by omega) (by omega) (by omega) (by omega)]) h76
    have hC2 : dC N Q P sF := dC_plan hC (fun c hc => by rw [f1 c (by omega) (by omega) (by omega) (by omega) (by omega), d_up_ne (by omega), a8 c (by omega) (by omega) (by omega)]) g1
    have hM2 : dM N Q P tF := by
      refine ⟨?_, dMP_l.mpr (dMl_cong hN6 (fun i hi => by rw [Nat.zero_add]; exact f3 i hi) h762)⟩
      have := hM.1
      unfold dMS at *
      rw [f2 73 (by omega), a9.1 73 (by omega) (by omega) (by omega) (by omega)]
      exact this
    refine ⟨-1, sF, tF, P, m, H, by rw [a1, e1]; rfl, by rw [a2, e2]; rfl, hW, hX, hC2, hM2, dCH_cong (f1 42 (by omega) (by omega) (by omega) (by omega) (by omega)) (f1 44 (by omega) (by omega) (by omega) (by omega) (by omega)) (dCHm_CH hm2), dMH_cong (by rw [f2 72 (by omega), a9.2 5 (by omega) (by omega) (by omega) (by omega) (by omega) (by omega)]) (by rw [f2 77 (by omega), a9.1 77 (by omega) (by omega) (by omega) (by omega)]) hh, ?_, ?_, ?_, fun c c1 c2 => ?_, fun c c1 c2 c3 c4 c5 => ?_, fun f hf => ?_⟩
    · rw [f1 45 (by omega) (by omega) (by omega) (by omega) (by omega), d_up_eq]
    · rw [f1 45 (by omega) (by omega) (by omega) (by omega) (by omega), d_up_nk (by omega), f2 72 (by omega)]; exact a6
    · rw [f1 45 (by omega) (by omega) (by omega) (by omega) (by omega), d_up_nk (by omega), f2 72 (by omega)]; exact a7
    · rw [f1 c (by omega) (by omega) (by omega) (by omega) (by omega), d_up_ne (by omega), a8 c (by omega) c2 (by omega)]
    · rw [f2 c c2, a9.1 c c1 c2 c4 c5]
    · rw [f2 72 (by omega), a9.2 f (by omega) (by omega) (by omega) (by omega) (by omega) (by omega)]
theorem st_runScript : dStep0 f_X11_runScript f_X12_runScript := by
  intro s ⟨N, Q, P, m, H, h⟩
  have hW := h.1
  have hB := dWN_b hW.1
  have hN6 : N 6 ≤ 40 := by omega
  obtain ⟨T, L, hT, hX, h12, h80⟩ := dTx_T h.2.2.2.2.2.2.1
  have hL := hT.1
  have hRe := h.2.2.2.2.2.2.2.2
  have hf := d_fuel (n := 1000) (by omega)
  obtain ⟨s0, e0, f0, g0⟩ := dc_mark hN6 h.2.2.1 h.2.2.2.2.1
  obtain ⟨s1, e1, k1, f1, g6, g7⟩ := c_start (s := s0) hT ⟨by rw [f0 45 (by omega)]; exact hX.1, by rw [f0 47 (by omega)]; exact hX.2⟩
  have hC1 : dC N Q P s1 := dC_lt (fun c hc => by rw [f1 c (by omega), f0 c (by omega)]) h.2.2.1
  have hm1 : dCHm N m H P s1 := dCHm_cong (f1 42 (by omega)) (f1 44 (by omega)) g0
  have hRun : f_X11_runScript s = f_X11_runScript_h20 ga_fuel 0 1 0 s1 := by
    rw [fe_X11_runScript]; unfold fb_X11_runScript
    rw [e0, Option.bind_some, e1, Option.bind_some]
  have ref : ∀ u : ga_M, (∀ c, c = 72 ∨ c = 73 ∨ c = 75 ∨ c = 77 ∨ c = 80 → u c = s c) → ∃ t1, f_X12_runScript u = f_X12_runScript_h22 ga_fuel 0 t1 ∧ (∀ c, c ≠ 72 → c ≠ 76 → t1 c = u c) ∧ mK T L (tS T L 0) t1 ∧ t1 72 16 = 0 ∧ t1 72 17 = -1 ∧ t1 72 12 = 0 ∧ t1 72 19 = s 72 19 ∧ dM N Q P t1 ∧ dMH N m H t1 ∧ dMl N P t1 76 0 := by
    intro u hu
    rw [fe_X12_runScript]; unfold fb_X12_runScript
    dsimp only
    obtain ⟨t0, b1, b2, b3⟩ := dm_copy_to (ga_up u 72 6 0)
    rw [b1, Option.bind_some]
    obtain ⟨t1, d1, d2, d3, d4, d5, d6, d7⟩ := m_start (t := t0) hT (by rw [b2 72 (by omega), d_up_nk (by omega), hu 72 (by omega)]; exact h12) (by rw [b2 80 (by omega), d_up_ne (by omega), hu 80 (by omega)]; exact h80)
    rw [d1, Option.bind_some]
    refine ⟨t1, rfl, fun c c1 c2 => by rw [d3 c c1, b2 c c2, d_up_ne c1], d2, d4, d5, d6, by rw [d7 19 (by omega), b2 72 (by omega), d_up_nk (by omega), hu 72 (by omega)], dM_cong (by rw [d3 73 (by omega), b2 73 (by omega), d_up_ne (by omega), hu 73 (by omega)]) (by rw [d3 75 (by omega), b2 75 (by omega), d_up_ne (by omega), hu 75 (by omega)]) h.2.2.2.1, dMH_cong (by rw [d7 5 (by omega), b2 72 (by omega), d_up_nk (by omega), hu 72 (by omega)]) (by rw [d3 77 (by omega), b2 77 (by omega), d_up_ne (by omega), hu 77 (by omega)]) h.2.2.2.2.2.1, dMl_cong hN6 (fun i hi => ?_) (dMP_l.mp h.2.2.2.1.2)⟩
    rw [d3 76 (by omega), Nat.zero_add, b3 i hi, d_up_ne (by omega), hu 75 (by omega)]
  have core : ∀ t1 : ga_M, mK T L (tS T L 0) t1 → t1 72 16 = 0 → t1 72 17 = -1 → dM N Q P t1 → dMH N m H t1 → dMl N P t1 76 0 → rOut N Q s1 t1 (f_X11_runScript_h20 ga_fuel 0 1 0 s1) (f_X12_runScript_h22 ga_fuel 0 t1) := fun t1 b1 b2 b3 b4 b5 b6 =>
    l_run hT L 0 ga_fuel ga_fuel (tS T L 0) P s1 t1 (by omega) (by omega) (by omega) (by omega) hW ⟨k1, b1, g6, g7, b2, b3⟩ hC1 b4
  obtain ⟨tA, _, _, x1, x2, x3, _, _, x4, x5, x6⟩ := ref s (fun _ _ => rfl)
  obtain ⟨v, sF, _, _, _, _, y1, _, _, _, _, _, _, _, _, _, _, y2, _⟩ := l_fin hW h.2.1 hC1 hm1 x4 x5 x6 (core tA x1 x2 x3 x4 x5 x6)
  have hs : ∀ c, 46 ≤ c → c ≠ 68 → sF c = s c := fun c c1 c2 => by rw [y2 c c1 c2, f1 c (by omega), f0 c (by omega)]
  obtain ⟨t1, r1, r2, r3, r4, r5, r6, r7, r8, r9, r10⟩ := ref sF (fun c hc => hs c (by omega) (by omega))
  obtain ⟨v2, sG, tF, P2, m2, H2, z1, z2, z3, z4, z5, z6, z7, z8, z9, z10, z11, _, z13, z14⟩ := l_fin hW h.2.1 hC1 hm1 r8 r9 r10 (core t1 r3 r4 r5 r8 r9 r10)
  have eq := Option.some.inj (y1.symm.trans z1)
  obtain ⟨ev, es⟩ := Prod.mk.inj eq
  subst ev es
  have ht : ∀ c, c ≠ 72 → c ≠ 75 → c ≠ 76 → c ≠ 77 → c ≠ 78 → c ≠ 79 → tF c = sF c := fun c c1 c2 c3 c4 c5 c6 => by rw [z13 c c1 c2 c4 c5 c6, r2 c c1 c3]
  refine ⟨v, sF, tF, by rw [hRun]; exact y1, by rw [r1]; exact z2, N, Q, P2, m2, H2, z3, z4, dC_lt (fun c hc => ht c (by omega) (by omega) (by omega) (by omega) (by omega) (by omega)) z5, z6, dCH_cong (ht 42 (by omega) (by omega) (by omega) (by omega) (by omega) (by omega)) (ht 44 (by omega) (by omega) (by omega) (by omega) (by omega) (by omega)) z7, z8, ?_, ?_, ?_⟩
  · refine ⟨0, by omega, ?_, ?_, fun i hi => by omega⟩
    · rw [ht 45 (by omega) (by omega) (by omega) (by omega) (by omega) (by omega), z9]; rfl
    · rw [z14 12 (by omega), r6]; rfl
  · unfold dEr
    rw [ht 45 (by omega) (by omega) (by omega) (by omega) (by omega) (by omega)]
    exact ⟨z10, z11⟩
  · refine dRe_cong ?_ ?_ ?_ ?_ hRe
    · rw [ht 69 (by omega) (by omega) (by omega) (by omega) (by omega) (by omega), hs 69 (by omega) (by omega)]
    · rw [ht 71 (by omega) (by omega) (by omega) (by omega) (by omega) (by omega), hs 71 (by omega) (by omega)]
    · rw [z14 19 (by omega), r7]
    · rw [ht 81 (by omega) (by omega) (by omega) (by omega) (by omega) (by omega), hs 81 (by omega) (by omega)]
end D58
