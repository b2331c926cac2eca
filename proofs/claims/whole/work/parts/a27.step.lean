section D57
/-! ===== one step of a script: both read it alike ===== -/
variable {T : Nat → Nat} {L : Nat} {N : Nat → Nat} {Q P : Nat → Nat → Int32} {s t : ga_M}
def sFc (s0 s : ga_M) : Prop := ∀ c, c ≠ 45 → c ≠ 68 → (c ≤ 20 ∨ 41 ≤ c) → s c = s0 c
def sFm (t0 t : ga_M) : Prop := (∀ c, c ≠ 72 → c ≠ 75 → c ≠ 78 → c ≠ 79 → t c = t0 c) ∧ ∀ f, f ≠ 9 → f ≠ 10 → f ≠ 13 → f ≠ 14 → f ≠ 16 → f ≠ 17 → t 72 f = t0 72 f
theorem sFc_refl (s : ga_M) : sFc s s := fun _ _ _ _ => rfl
theorem sFm_refl (t : ga_M) : sFm t t := ⟨fun _ _ _ _ _ => rfl, fun _ _ _ _ _ _ _ => rfl⟩
theorem sFc_trans {a b c : ga_M} (h : sFc a b) (h2 : sFc b c) : sFc a c := fun x x1 x2 x3 => (h2 x x1 x2 x3).trans (h x x1 x2 x3)
theorem sFm_trans {a b c : ga_M} (h : sFm a b) (h2 : sFm b c) : sFm a c := ⟨fun x x1 x2 x3 x4 => (h2.1 x x1 x2 x3 x4).trans (h.1 x x1 x2 x3 x4), fun x x1 x2 x3 x4 x5 x6 => (h2.2 x x1 x2 x3 x4 x5 x6).trans (h.2 x x1 x2 x3 x4 x5 x6)⟩
theorem sFc_t {a b : ga_M} (h : tF a b) : sFc a b := fun x x1 _ _ => h x x1
theorem sFc_p {a b : ga_M} (h : dFp a b) : sFc a b := fun x _ _ x3 => h x x3
theorem sFc_68 (s : ga_M) (k : Nat) (v : Int32) : sFc s (ga_up s 68 k v) := fun x _ x2 _ => d_up_ne x2
theorem sFm_m {a b : ga_M} (h : mF a b) : sFm a b := ⟨fun x x1 _ _ _ => h.1 x x1, fun f _ _ f3 f4 f5 f6 => h.2 f f3 f4 f5 f6⟩
theorem sFm_q {a b : ga_M} (h : dFq a b) : sFm a b := ⟨fun x x1 x2 x3 x4 => h.1 x x1 x2 x3 x4, fun f f1 f2 _ _ _ _ => h.2 f f1 f2⟩
def sBad (T : Nat → Nat) (L : Nat) (s t : ga_M) : Prop := cX T L s ∧ (∃ e, e ≤ L ∧ s 45 4 = nI e) ∧ tBad s t
theorem c_failX (hT : tOk T L) {st : Nat} (h : cK T L st s) {k : Int32} {s2 : ga_M} (e : v_X8_fail k s = (0, s2)) : cX T L s2 ∧ ∃ e, e ≤ L ∧ s2 45 4 = nI e := by
  rw [c_fail h k] at e
  have e2 := (Prod.mk.inj e).2
  subst e2
  have hE := tE_le (T := T) hT.1 h.2.1
  exact ⟨⟨by rw [d_up_nk (by omega), d_up_nk (by omega)]; exact h.1.1, by rw [d_up_ne (by omega), d_up_ne (by omega)]; exact h.1.2⟩, _, hE.2, by rw [d_up_nk (by omega), d_up_nk (by omega)]; exact h.2.2.2.2.1⟩
def sOut (T : Nat → Nat) (L : Nat) (N : Nat → Nat) (Q : Nat → Nat → Int32) (st : Nat) (s t : ga_M) (c : Option (Int32 × ga_M)) (m : Option ga_M) : Prop :=
  ∃ t2, m = some t2 ∧ sFm t t2 ∧
  ((∃ P2 s1 q st2, c = some (1, s1) ∧ f_X2_perform (s1 68 1) (s1 68 3) (s1 68 4) s1 = some (1, q) ∧ dW N Q P2 ∧ st ≤ st2 ∧ st2 < L ∧ tOkay T L st2 q t2 ∧ dC N Q P2 q ∧ dM N Q P2 t2 ∧ sFc s q) ∨
  (∃ s1, c = some (0, s1) ∧ sBad T L s1 t2 ∧ sFc s s1) ∨
  ∃ s1 q s2, c = some (1, s1) ∧ f_X2_perform (s1 68 1) (s1 68 3) (s1 68 4) s1 = some (0, q) ∧ v_X10_fail 6 (q 68 2) q = (0, s2) ∧ sBad T L s2 t2 ∧ sFc s s2)
theorem sOut_pre {st st0 : Nat} {s0 t0 : ga_M} {c : Option (Int32 × ga_M)} {m : Option ga_M} (hc : sFc s0 s) (hm : sFm t0 t) (hst : st0 ≤ st) (h : sOut T L N Q st s t c m) : sOut T L N Q st0 s0 t0 c m := by
  obtain ⟨t2, h1, h2, h3⟩ := h
  refine ⟨t2, h1, sFm_trans hm h2, ?_⟩
  rcases h3 with ⟨P2, s1, q, st2, a1, a2, a3, a4, a4', a5, a6, a7, a8⟩ | ⟨s1, a1, a2, a3⟩ | ⟨s1, q, s2, a1, a2, a3, a4, a5⟩
  · exact Or.inl ⟨P2, s1, q, st2, a1, a2, a3, by omega, a4', a5, a6, a7, sFc_trans hc a8⟩
  · exact Or.inr (Or.inl ⟨s1, a1, a2, sFc_trans hc a3⟩)
  · exact Or.inr (Or.inr ⟨s1, q, s2, a1, a2, a3, a4, sFc_trans hc a5⟩)
noncomputable def rEnd (l1 l2 b c : Int32) (t : ga_M) : Option ga_M :=
  if (t 72 16) = 0 then (f_X12_isWord 1039 t).bind fun x => if x = 0 then f_X12_goesThrough_j97 l1 l2 b c (v_X12_wrong 1 t) else f_X12_goesThrough_j97 l1 l2 b c t else f_X12_goesThrough_j97 l1 l2 b c t
theorem z_j97 (h : mZ t) (a b c d : Int32) : f_X12_goesThrough_j97 a b c d t = some t := by
  rw [fe_X12_goesThrough_j97]; unfold fb_X12_goesThrough_j97
  rw [if_neg (z_le h)]
theorem z_rEnd (h : mZ t) (a b c d : Int32) : rEnd a b c d t = some t := by
  unfold rEnd
  rw [if_neg (z_ne h), z_j97 h]
theorem tOkay_q {st : Nat} {s2 t2 : ga_M} (h : tOkay T L st s t) (e1 : s2 45 = s 45) (e2 : s2 47 = s 47) (f : dFq t t2) : tOkay T L st s2 t2 := by
  unfold tOkay cK mK cX mX at *
  rw [e1, e2, f.2 13 (by omega) (by omega), f.2 14 (by omega) (by omega), f.2 15 (by omega) (by omega), f.2 16 (by omega) (by omega), f.2 17 (by omega) (by omega), f.1 80 (by omega) (by omega) (by omega) (by omega)]
  exact h
theorem l_tail (hT : tOk T L) {st : Nat} (h : tOkay T L st s t) (hC : dC N Q P s) (hM : dM N Q P t) {r b c : Int32} (hd : dDo N Q P (s 68 1) r b c) (hp : ∀ u, f_X2_perform (s 68 1) (s 68 3) (s 68 4) u = f_X2_perform (s 68 1) b c u) (l : Int32) (n : Nat) :
    sOut T L N Q st s t (f_X9_readStep_h60 (n + 1) l l s) (rEnd (s 68 2) r b c t) := by
  have h5 := tK_lt T L st
  unfold rEnd
  rw [f_X9_readStep_h60, if_pos (Int32.le_refl l), h.2.2.2.2.1, if_pos rfl, m_isWord hT h.2.1 h.2.2.2.2.1 w_semi, Option.bind_some, tW_semi hT h.1.2.1, h.1.2.2.1]
  by_cases ck : tK T L st = 3
  · rw [ck, decide_eq_true (show (3 : Nat) = 3 from rfl), if_neg (show ¬ aB true = 0 by decide), if_pos (show nI 3 = 3 from rfl), fe_X12_goesThrough_j97]
    unfold fb_X12_goesThrough_j97
    rw [h.2.2.2.2.1, if_pos (show (0 : Int32) ≤ 0 by decide)]
    have hlt : st < L := by
      by_cases q : st < L
      · exact q
      · have := (tK0 (T := T) (L := L) (st := st)).mpr (by omega); omega
    obtain ⟨P2, ok, hW2, _, hac, hmm⟩ := hd
    obtain ⟨q, e1, e2, e3⟩ := hac s hC
    obtain ⟨t1, g1, g2, g3, g4⟩ := hmm t hM
    rw [g1, Option.bind_some]
    have q45 : q 45 = s 45 := e2 45 (by omega)
    have q47 : q 47 = s 47 := e2 47 (by omega)
    have q68 : q 68 = s 68 := e2 68 (by omega)
    cases ok
    · dsimp only
      rw [if_pos (show aB false = 0 from rfl)]
      refine ⟨_, rfl, sFm_trans (sFm_q g2) ⟨fun x x1 _ _ _ => by rw [d_up_ne x1, d_up_ne x1], fun f _ _ _ _ f5 f6 => by rw [d_up_nk (by omega), d_up_nk (by omega)]⟩, Or.inr (Or.inr ⟨s, q, ga_up (ga_up q 45 6 6) 45 7 (q 68 2), rfl, by rw [hp]; exact e1, by rw [ve_X10_fail]; rfl, ⟨⟨?_, ?_⟩, ⟨_, (tE_le (T := T) hT.1 h.1.2.1).2, ?_⟩, ?_, ?_, 6, by omega, by omega, ?_⟩, sFc_trans (sFc_p e2) (fun x x1 _ _ => by rw [d_up_ne x1, d_up_ne x1])⟩)⟩
      · rw [d_up_nk (by omega), d_up_nk (by omega), q45]; exact h.1.1.1
      · rw [d_up_ne (by omega), d_up_ne (by omega), q47]; exact h.1.1.2
      · rw [d_up_nk (by omega), d_up_nk (by omega), q45]; exact h.1.2.2.2.2.1
      · rw [d_up_nk (by omega), d_up_eq, d_up_nk (by omega), d_up_eq]
      · rw [d_up_eq, d_up_eq, q68]
      · rw [d_up_nk (by omega), d_up_eq]; rfl
    · obtain ⟨t2, k1, k2, k3⟩ := g4 rfl
      dsimp only
      rw [if_neg (show ¬ aB true = 0 by decide), k1, Option.bind_some]
      exact ⟨t2, rfl, sFm_trans (sFm_q g2) (sFm_q k2), Or.inl ⟨P2, s, q, st, rfl, by rw [hp]; exact e1, hW2, Nat.le_refl _, hlt, tOkay_q h q45 q47 (dFq_trans g2 k2), e3, k3, sFc_p e2⟩⟩
  · obtain ⟨s2, t2, g1, g2, g3, g4, g5⟩ := l_fail h (k := 1) (by omega) (by omega)
    rw [decide_eq_false ck, if_pos (show aB false = 0 from rfl), if_neg (show ¬ nI (tK T L st) = 3 from fun q => ck ((nI_eq (b := 3) (by omega) (by omega)).mp q)), x_fail, show v_X8_fail 1 s = (0, s2) from g1, show v_X12_wrong 1 t = t2 from g2, z_j97 g3.2.2]
    dsimp only
    rw [if_pos rfl]
    obtain ⟨x1, x2⟩ := c_failX hT h.1 g1
    exact ⟨t2, rfl, sFm_m g5, Or.inr (Or.inl ⟨s2, rfl, ⟨x1, x2, g3⟩, sFc_t g4⟩)⟩
theorem l_first (hT : tOk T L) {st : Nat} (h : tOkay T L st s t) (hC : dC N Q P s) (hM : dM N Q P t) {c : Int32} (hc : ¬ c ≤ 0) (n : Nat) (K : Int32 → ga_M → Option ga_M) (zK : ∀ v t2, mZ t2 → K v t2 = some t2)
    (next : ∀ s2 t2, tOkay T L (tX T L st) s2 t2 → dC N Q P s2 → dM N Q P t2 → sFc s s2 → sFm t t2 → s2 68 1 = s 68 1 → s2 68 2 = s 68 2 → s2 68 3 = s 45 5 → s2 68 4 = s 45 5 → sOut T L N Q st s t (f_X9_readStep_h60 n c 1 s2) (K (s 45 5) t2)) :
    sOut T L N Q st s t (f_X9_readStep_h60 (n + 1) c 0 s) ((f_X12_figure t).bind fun q => K q.1 q.2) := by
  rw [f_X9_readStep_h60, if_neg hc]
  rcases l_figure hT h with ⟨a1, a2, a3⟩ | ⟨a1, s2, t2, a2, a3, a4, a5, a6⟩
  · rw [if_pos a1, if_pos a2, a3]
    rw [if_pos rfl]
    dsimp only
    rw [d_up_ne (show 45 ≠ 68 by decide)]
    generalize hu : ga_up (ga_up s 68 3 (s 45 5)) 68 4 (s 45 5) = u
    have hu1 : ∀ x, x ≠ 68 → u x = s x := fun x hx => by rw [← hu, d_up_ne hx, d_up_ne hx]
    obtain ⟨s2, t2, b1, _, b2, _, b3, b4, b5⟩ := l_go hT (tOkay_c (hu1 45 (by omega)) (hu1 47 (by omega)) rfl rfl h)
    rw [b1, b2, Option.bind_some, Option.bind_some, Option.bind_some]
    have s68 : s2 68 = u 68 := b4 68 (by omega)
    refine next s2 t2 b3 (dC_lt (fun x hx => by rw [b4 x (by omega), hu1 x (by omega)]) hC) (dM_cong (b5.1 73 (by omega)) (b5.1 75 (by omega)) hM) (fun x x1 x2 _ => by rw [b4 x x1, hu1 x x2]) (sFm_m b5) ?_ ?_ ?_ ?_
    · rw [s68, ← hu, d_up_nk (by omega), d_up_nk (by omega)]
    · rw [s68, ← hu, d_up_nk (by omega), d_up_nk (by omega)]
    · rw [s68, ← hu, d_up_nk (by omega), d_up_eq]
    · rw [s68, ← hu, d_up_eq]
  · obtain ⟨x1, x2⟩ := c_failX hT h.1 a2
    rw [a3, Option.bind_some, zK _ _ a4.2.2, x_fail, a2]
    refine ⟨t2, rfl, sFm_m a6, Or.inr (Or.inl ⟨s2, ?_, ⟨x1, x2, a4⟩, sFc_t a5⟩)⟩
    by_cases c1 : s 45 2 = 2
    · rw [if_pos c1, if_neg (a1 c1)]
    · rw [if_neg c1]
theorem l_second (hT : tOk T L) {st : Nat} (h : tOkay T L st s t) (hC : dC N Q P s) (hM : dM N Q P t) {c : Int32} (hc : ¬ c ≤ 1) (n : Nat) (K : Int32 → ga_M → Option ga_M) (zK : ∀ v t2, mZ t2 → K v t2 = some t2)
    (next : ∀ s2 t2, tOkay T L (tX T L st) s2 t2 → dC N Q P s2 → dM N Q P t2 → sFc s s2 → sFm t t2 → s2 68 1 = s 68 1 → s2 68 2 = s 68 2 → s2 68 3 = s 68 3 → s2 68 4 = s 45 5 → sOut T L N Q st s t (f_X9_readStep_h60 n c 2 s2) (K (s 45 5) t2)) :
    sOut T L N Q st s t (f_X9_readStep_h60 (n + 1) c 1 s) ((f_X12_figure t).bind fun q => K q.1 q.2) := by
  rw [f_X9_readStep_h60, if_neg hc]
  rcases l_figure hT h with ⟨a1, a2, a3⟩ | ⟨a1, s2, t2, a2, a3, a4, a5, a6⟩
  · rw [if_pos a1, if_pos a2, a3]
    rw [if_neg (by decide)]
    dsimp only
    rw [d_up_ne (show 45 ≠ 68 by decide)]
    generalize hu : ga_up (ga_up s 68 3 (s 68 3)) 68 4 (s 45 5) = u
    have hu1 : ∀ x, x ≠ 68 → u x = s x := fun x hx => by rw [← hu, d_up_ne hx, d_up_ne hx]
    obtain ⟨s2, t2, b1, _, b2, _, b3, b4, b5⟩ := l_go hT (tOkay_c (hu1 45 (by omega)) (hu1 47 (by omega)) rfl rfl h)
    rw [b1, b2, Option.bind_some, Option.bind_some, Option.bind_some]
    have s68 : s2 68 = u 68 := b4 68 (by omega)
    refine next s2 t2 b3 (dC_lt (fun x hx => by rw [b4 x (by omega), hu1 x (by omega)]) hC) (dM_cong (b5.1 73 (by omega)) (b5.1 75 (by omega)) hM) (fun x x1 x2 _ => by rw [b4 x x1, hu1 x x2]) (sFm_m b5) ?_ ?_ ?_ ?_
    · rw [s68, ← hu, d_up_nk (by omega), d_up_nk (by omega)]
    · rw [s68, ← hu, d_up_nk (by omega), d_up_nk (by omega)]
    · rw [s68, ← hu, d_up_nk (by omega), d_up_eq]
    · rw [s68, ← hu, d_up_eq]
  · obtain ⟨x1, x2⟩ := c_failX hT h.1 a2
    rw [a3, Option.bind_some, zK _ _ a4.2.2, x_fail, a2]
    refine ⟨t2, rfl, sFm_m a6, Or.inr (Or.inl ⟨s2, ?_, ⟨x1, x2, a4⟩, sFc_t a5⟩)⟩
    by_cases c1 : s 45 2 = 2
    · rw [if_pos c1, if_neg (a1 c1)]
    · rw [if_neg c1]
theorem dDo_all (hW : dW N Q P) {j : Nat} (hj : j < 10) (b c : Int32) : dDo N Q P (nI j) (rM j) b c := by
  rcases (show j = 0 ∨ j = 1 ∨ j = 2 ∨ j = 3 ∨ j = 4 ∨ j = 5 ∨ j = 6 ∨ j = 7 ∨ j = 8 ∨ j = 9 by omega) with rfl | rfl | rfl | rfl | rfl | rfl | rfl | rfl | rfl | rfl
  · exact p_absent hW b c
  · exact p_present hW b c
  · exact p_cover hW b c
  · exact p_watch hW b c
  · exact p_swap hW b c
  · exact p_move hW b c
  · exact p_room hW b c
  · exact p_repair hW b c
  · exact p_open hW b c
  · exact p_all hW b c
theorem perf_7 (b c : Int32) (u : ga_M) : f_X2_perform 7 b c u = f_X2_perform 7 b 0 u := by
  rw [fe_X2_perform]; unfold fb_X2_perform
  simp only [show ((7 : Int32) = 0) = False from eq_false (by decide), show ((7 : Int32) = 1) = False from eq_false (by decide), show ((7 : Int32) = 2) = False from eq_false (by decide), show ((7 : Int32) = 3) = False from eq_false (by decide), show ((7 : Int32) = 4) = False from eq_false (by decide), show ((7 : Int32) = 5) = False from eq_false (by decide), show ((7 : Int32) = 6) = False from eq_false (by decide), show ((7 : Int32) = 7) = True from eq_true rfl, show ((7 : Int32) = 8) = False from eq_false (by decide), show ((7 : Int32) = 9) = False from eq_false (by decide), if_true, if_false]
theorem perf_8 (b c : Int32) (u : ga_M) : f_X2_perform 8 b c u = f_X2_perform 8 b 0 u := by
  rw [fe_X2_perform]; unfold fb_X2_perform
  simp only [show ((8 : Int32) = 0) = False from eq_false (by decide), show ((8 : Int32) = 1) = False from eq_false (by decide), show ((8 : Int32) = 2) = False from eq_false (by decide), show ((8 : Int32) = 3) = False from eq_false (by decide), show ((8 : Int32) = 4) = False from eq_false (by decide), show ((8 : Int32) = 5) = False from eq_false (by decide), show ((8 : Int32) = 6) = False from eq_false (by decide), show ((8 : Int32) = 7) = False from eq_false (by decide), show ((8 : Int32) = 8) = True from eq_true rfl, show ((8 : Int32) = 9) = False from eq_false (by decide), if_true, if_false]
theorem perf_9 (b c : Int32) (u : ga_M) : f_X2_perform 9 b c u = f_X2_perform 9 0 0 u := by
  rw [fe_X2_perform]; unfold fb_X2_perform
  simp only [show ((9 : Int32) = 0) = False from eq_false (by decide), show ((9 : Int32) = 1) = False from eq_false (by decide), show ((9 : Int32) = 2) = False from eq_false (by decide), show ((9 : Int32) = 3) = False from eq_false (by decide), show ((9 : Int32) = 4) = False from eq_false (by decide), show ((9 : Int32) = 5) = False from eq_false (by decide), show ((9 : Int32) = 6) = False from eq_false (by decide), show ((9 : Int32) = 7) = False from eq_false (by decide), show ((9 : Int32) = 8) = False from eq_false (by decide), show ((9 : Int32) = 9) = True from eq_true rfl, if_true, if_false]
theorem z_j65 (h : mZ t) (a b c : Int32) : f_X12_goesThrough_j65 a b c t = some t := by
  rw [fe_X12_goesThrough_j65]; unfold fb_X12_goesThrough_j65
  rw [if_neg (z_ne h), z_j97 h]
theorem z_j35 (h : mZ t) (a b : Int32) : f_X12_goesThrough_j35 a b t = some t := by
  rw [fe_X12_goesThrough_j35]; unfold fb_X12_goesThrough_j35
  split
  · exact z_j65 h _ _ _
  · rw [z_figure h, Option.bind_some]; exact z_j65 h _ _ _
theorem z_j20 (h : mZ t) (a : Int32) : f_X12_goesThrough_j20 a (-1) t = some t := by
  rw [fe_X12_goesThrough_j20]; unfold fb_X12_goesThrough_j20
  rw [z_goOn h, Option.bind_some, if_neg (by decide), if_neg (by decide), if_neg (by decide), z_figure h, Option.bind_some]
  dsimp only
  rw [if_neg (by decide), z_figure h, Option.bind_some]
  dsimp only
  rw [if_neg (z_ne h), z_j97 h]
theorem j65_eq (a b c : Int32) (t : ga_M) : f_X12_goesThrough_j65 a b c t = rEnd a b c 0 t := by
  rw [fe_X12_goesThrough_j65]; rfl
theorem l_step (hT : tOk T L) (hW : dW N Q P) {st : Nat} (h : tOkay T L st s t) (hC : dC N Q P s) (hM : dM N Q P t) : sOut T L N Q st s t (f_X9_readStep s) (f_X12_goesThrough t) := by
  have hf := d_fuel (n := 20) (by omega)
  obtain ⟨n, hn⟩ : ∃ n, ga_fuel = n + 1 + 1 + 1 := ⟨ga_fuel - 3, by omega⟩
  have hL := hT.1
  have hX := tX_le (T := T) hL h.1.2.1
  have hXge : st ≤ tX T L st := by
    have hE := tE_le (T := T) hL h.1.2.1
    have hS := tS_le (T := T) hL hE.2
    unfold tX; omega
  have hC' : f_X9_readStep s = fb_X9_readStep s := by rw [fe_X9_readStep]
  rw [hC', fe_X12_goesThrough]; unfold fb_X9_readStep fb_X12_goesThrough
  dsimp only
  generalize hu : ga_up s 68 2 (s 45 3) = u
  have hu1 : ∀ x, x ≠ 68 → u x = s x := fun x hx => by rw [← hu, d_up_ne hx]
  have ku : cK T L st u := (tOkay_c (hu1 45 (by omega)) (hu1 47 (by omega)) rfl rfl h).1
  obtain ⟨m1, m2⟩ := m_stepHere hT h.2.1 h.2.2.2.2.1
  rcases c_findStep hT ku with ⟨j, hj, hw, e1⟩ | ⟨hw, e1⟩
  rotate_left
  · rw [e1, m2 hw, Option.bind_some, Option.bind_some]
    rw [d_up_eq, if_pos rfl, if_pos rfl]
    generalize hv : ga_up u 68 1 (-1) = v
    have hv1 : ∀ x, x ≠ 68 → v x = s x := fun x hx => by rw [← hv, d_up_ne hx, hu1 x hx]
    have h' : tOkay T L st v t := tOkay_c (hv1 45 (by omega)) (hv1 47 (by omega)) rfl rfl h
    obtain ⟨s2, t2, g1, g2, g3, g4, g5⟩ := l_fail h' (k := 1) (by omega) (by omega)
    rw [x_fail, show v_X8_fail 1 v = (0, s2) from g1, show v_X12_wrong 1 t = t2 from g2, z_j20 g3.2.2]
    obtain ⟨x1, x2⟩ := c_failX hT h'.1 g1
    exact ⟨t2, rfl, sFm_m g5, Or.inr (Or.inl ⟨s2, rfl, ⟨x1, x2, g3⟩, fun x x1 x2 _ => by rw [g4 x x1, hv1 x x2]⟩)⟩
  rw [e1, m1 j hj hw, Option.bind_some, Option.bind_some]
  have hj1 : ¬ nI j = -1 := d_ne1 (by omega)
  have hr1 : ∀ j, j < 10 → ¬ rM j = -1 := by decide
  rw [d_up_eq, if_neg hj1, if_neg (hr1 j hj)]
  generalize hv : ga_up u 68 1 (nI j) = v
  have hv1 : ∀ x, x ≠ 68 → v x = s x := fun x hx => by rw [← hv, d_up_ne hx, hu1 x hx]
  have h' : tOkay T L st v t := tOkay_c (hv1 45 (by omega)) (hv1 47 (by omega)) rfl rfl h
  obtain ⟨s4, t4, b1, _, b2, _, b3, b4, b5⟩ := l_go hT h'
  have hrJ : f_X12_goesThrough_j20 (t 72 13) (rM j) t = fb_X12_goesThrough_j20 (t 72 13) (rM j) t := by rw [fe_X12_goesThrough_j20]
  rw [hrJ]
  unfold fb_X12_goesThrough_j20
  rw [b1, b2, Option.bind_some, Option.bind_some]
  have c68 : s4 68 = v 68 := b4 68 (by omega)
  have c1 : s4 68 1 = nI j := by rw [c68, ← hv, d_up_eq]
  have c2 : s4 68 2 = t 72 13 := by rw [c68, ← hv, d_up_nk (by omega), ← hu, d_up_eq, h.1.2.2.2.1, h.2.1.2.2.1]
  have F : sFc s s4 := fun x x1 x2 _ => by rw [b4 x x1, hv1 x x2]
  have hC4 : dC N Q P s4 := dC_lt (fun x hx => by rw [b4 x (by omega), hv1 x (by omega)]) hC
  have hM4 : dM N Q P t4 := dM_cong (b5.1 73 (by omega)) (b5.1 75 (by omega)) hM
  have hX2 := tX_le (T := T) hL hX
  have ge2 : tX T L st ≤ tX T L (tX T L st) := by
    have hE := tE_le (T := T) hL hX
    have hS := tS_le (T := T) hL hE.2
    unfold tX at *; omega
  have hX3 := tX_le (T := T) hL hX2
  have ge3 : tX T L (tX T L st) ≤ tX T L (tX T L (tX T L st)) := by
    have hE := tE_le (T := T) hL hX2
    have hS := tS_le (T := T) hL hE.2
    unfold tX at *; omega
  refine sOut_pre F (sFm_m b5) hXge ?_
  dsimp only
  rw [c1, hn, ← c2]
  -- two numbers
  have two : ∀ r : Int32, (∀ b c, dDo N Q P (nI j) r b c) → sOut T L N Q (tX T L st) s4 t4 (f_X9_readStep_h60 (n + 1 + 1 + 1) 2 0 s4) ((f_X12_figure t4).bind fun q102 => (f_X12_figure q102.2).bind fun q104 => rEnd (s4 68 2) r q102.1 q104.1 q104.2) := by
    intro r hd
    refine l_first hT b3 hC4 hM4 (by decide) (n + 1 + 1) (fun v t => (f_X12_figure t).bind fun q104 => rEnd (s4 68 2) r v q104.1 q104.2) (fun v t2 hz => by rw [z_figure hz, Option.bind_some]; exact z_rEnd hz _ _ _ _) (fun s5 t5 k1 k2 k3 k4 k5 k6 k7 k8 k9 => ?_)
    refine sOut_pre k4 k5 ge2 ?_
    refine l_second hT k1 k2 k3 (by decide) (n + 1) (fun w t => rEnd (s4 68 2) r (s4 45 5) w t) (fun w t2 hz => z_rEnd hz _ _ _ _) (fun s6 t6 l1 l2 l3 l4 l5 l6 l7 l8 l9 => ?_)
    refine sOut_pre l4 l5 ge3 ?_
    rw [← k7, ← l7]
    exact l_tail hT l1 l2 l3 (by rw [l6, k6, c1]; exact hd _ _) (fun u => by rw [l8, k8, l9]) 2 n
  -- one number
  have one : ∀ r : Int32, (∀ b c, dDo N Q P (nI j) r b c) → (∀ b c u, f_X2_perform (nI j) b c u = f_X2_perform (nI j) b 0 u) → sOut T L N Q (tX T L st) s4 t4 (f_X9_readStep_h60 (n + 1 + 1 + 1) 1 0 s4) ((f_X12_figure t4).bind fun q201 => rEnd (s4 68 2) r q201.1 0 q201.2) := by
    intro r hd hp
    refine l_first hT b3 hC4 hM4 (by decide) (n + 1 + 1) (fun v t => rEnd (s4 68 2) r v 0 t) (fun v t2 hz => z_rEnd hz _ _ _ _) (fun s5 t5 k1 k2 k3 k4 k5 k6 k7 k8 k9 => ?_)
    refine sOut_pre k4 k5 ge2 ?_
    rw [← k7]
    exact l_tail hT k1 k2 k3 (by rw [k6, c1]; exact hd _ _) (fun u => by rw [k6, c1, hp, k8]) 1 (n + 1)
  have D := fun b c => dDo_all hW hj b c
  have n2 : ∀ k : Nat, k < 7 → v_X9_numbersOf (nI k) s4 = 2 := fun k hk => by
    rw [ve_X9_numbersOf]; unfold vb_X9_numbersOf
    rcases (show k = 0 ∨ k = 1 ∨ k = 2 ∨ k = 3 ∨ k = 4 ∨ k = 5 ∨ k = 6 by omega) with rfl | rfl | rfl | rfl | rfl | rfl | rfl
    all_goals decide
  by_cases j7 : j < 7
  · have r1 : ∀ k, k < 7 → ¬ rM k = 4 ∧ ¬ rM k = 9 ∧ ¬ rM k = 5 := by decide
    obtain ⟨r4, r9, r5⟩ := r1 j j7
    rw [n2 j j7, if_neg r4, if_neg r9, if_neg r5]
    simp only [if_neg r5]
    exact two (rM j) D
  rcases (show j = 7 ∨ j = 8 ∨ j = 9 by omega) with rfl | rfl | rfl
  · have hn7 : v_X9_numbersOf (nI 7) s4 = 1 := by rw [ve_X9_numbersOf]; rfl
    rw [hn7, if_pos (show rM 7 = 4 from rfl), fe_X12_goesThrough_j35]
    unfold fb_X12_goesThrough_j35
    rw [if_neg (show ¬ rM 7 = 5 by decide)]
    simp only [j65_eq]
    exact one (rM 7) D perf_7
  · have hn8 : v_X9_numbersOf (nI 8) s4 = 1 := by rw [ve_X9_numbersOf]; rfl
    rw [hn8, if_neg (show ¬ rM 8 = 4 by decide), if_pos (show rM 8 = 9 from rfl), fe_X12_goesThrough_j35]
    unfold fb_X12_goesThrough_j35
    rw [if_neg (show ¬ rM 8 = 5 by decide)]
    simp only [j65_eq]
    exact one (rM 8) D perf_8
  · have hn9 : v_X9_numbersOf (nI 9) s4 = 0 := by rw [ve_X9_numbersOf]; rfl
    rw [hn9, if_neg (show ¬ rM 9 = 4 by decide), if_neg (show ¬ rM 9 = 9 by decide), if_pos (show rM 9 = 5 from rfl), if_pos (show rM 9 = 5 from rfl), j65_eq]
    exact l_tail hT b3 hC4 hM4 (by rw [c1]; exact D 0 0) (fun u => by rw [c1]; exact perf_9 _ _ u) 0 (n + 1 + 1)
end D57
