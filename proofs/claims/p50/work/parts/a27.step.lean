section D57
/-! ===== one step of a script: both read it alike ===== -/
variable {T : Nat → Nat} {L : Nat} {N : Nat → Nat} {Q P : Nat → Nat → Int32} {s t : ga_M}
def sFc (s0 s : ga_M) : Prop := ∀ c, c ≠ 45 → c ≠ 68 → (c ≤ 20 ∨ 41 ≤ c) → s c = s0 c
def sFm (t0 t : ga_M) : Prop := (∀ c, c ≠ 72 → c ≠ 75 → c ≠ 78 → c ≠ 79 → t c = t0 c) ∧ ∀ f, f ≠ 9 → f ≠ 10 → f ≠ 13 → f ≠ 14 → f ≠ 16 → f ≠ 17 → t 72 f = t0 72 f
theorem sFc_refl (s : ga_M) : sFc s s := fun _ _ _ _ => rfl
theorem sFm_refl (t : ga_M) : sFm t t := ⟨fun _ _ _ _ _ => rfl, fun _ _ _ _ _ _ _ => rfl⟩
theorem sFc_trans {a b c : ga_M} (h : sFc a b) (h2 : sFc b c) : sFc a c := fun x x1 x2 x3 => (h2 x x1 x2 x3).trans (h x x1 x2 x3)
theorem sFm_trans {a b c : ga_M} (h : sFm a b) (h2 : sFm b c) : sFm a c := ⟨fun x x1 x2 x3 x4 => (h2.1 x x1 x2 x3 x4).trans (h.1 x x1 x2 x3 x4), fun x x1 x2 x3 x4 x5 x6 => (h2.2 x x1 x2 x3 x4 x5 x6).trans (h.2 x x1 x2 x3 x4 x5 x6)⟩
theorem sFc_t {a b : ga_M} (h : tF a b) : sFc a b := fun x x1 _ _ => h x x1
theorem sFc_p {a b : ga_M} (h : dFp a b) : sFc a b := fun x _ _ x3 => h x x3
theorem sFc_68 (s : ga_M) (k : Nat) (v : Int32) : sFc s (ga_up s 68 k v) := fun x _ x2 _ => d_up_ne x2
theorem sFm_m {a b : ga_M} (h : mF a b) : sFm a b := ⟨fun x x1 _ _ _ => h.1 x x1, fun f _ _ f3 f4 f5 f6 => h.2 f f3 f4 f5 f6⟩
theorem sFm_q {a b : ga_M} (h : dFq a b) : sFm a b := ⟨fun x x1 x2 x3 x4 => h.1 x x1 x2 x3 x4, fun f f1 f2 _ _ _ _ => h.2 f f1 f2⟩
def sBad (T : Nat → Nat) (L : Nat) (s t : ga_M) : Prop := cX T L s ∧ (∃ e, e ≤ L ∧ s 45 4 = nI e) ∧ tBad s t
theorem c_failX (hT : tOk T L) {st : Nat} (h : cK T L st s) {k : Int32} {s2 : ga_M} (e : v_X8_fail k s = (0, s2)) : cX T L s2 ∧ ∃ e, e ≤ L ∧ s2 45 4 = nI e := by
  rw [c_fail h k] at e
  have e2 := (Prod.mk.inj e).2
  subst e2
  have hE := tE_le (T := T) hT.1 h.2.1
  exact ⟨⟨by rw [d_up_nk (by omega), d_up_nk (by omega)]; exact h.1.1, by rw [d_up_ne (by omega), d_up_ne (by omega)]; exact h.1.2⟩, _, hE.2, by rw [d_up_nk (by omega), d_up_nk (by omega)]; exact h.2.2.2.2.1⟩
def sOut (T : Nat → Nat) (L : Nat) (N : Nat → Nat) (Q : Nat → Nat → Int32) (st : Nat) (s t : ga_M) (c : Option (Int32 × ga_M)) (m : Option ga_M) : Prop :=
  ∃ t2, m = some t2 ∧ sFm t t2 ∧
  ((∃ P2 s1 q st2, c = some (1, s1) ∧ f_X2_perform (s1 68 1) (s1 68 3) (s1 68 4) s1 = some (1, q) ∧ dW N Q P2 ∧ st ≤ st2 ∧ st2 < L ∧ tOkay T L st2 q t2 ∧ dC N Q P2 q ∧ dM N Q P2 t2 ∧ sFc s q) ∨
  (∃ s1, c = some (0, s1) ∧ sBad T L s1 t2 ∧ sFc s s1) ∨
  ∃ s1 q s2, c = some (1, s1) ∧ f_X2_perform (s1 68 1) (s1 68 3) (s1 68 4) s1 = some (0, q) ∧ v_X10_fail 6 (q 68 2) q = (0, s2) ∧ sBad T L s2 t2 ∧ sFc s s2)
theorem sOut_pre {st st0 : Nat} {s0 t0 : ga_M} {c : Option (Int32 × ga_M)} {m : Option ga_M} (hc : sFc s0 s) (hm : sFm t0 t) (hst : st0 ≤ st) (h : sOut T L N Q st s t c m) : sOut T L N Q st0 s0 t0 c m := by
  obtain ⟨t2, h1, h2, h3⟩ := h
  refine ⟨t2, h1, sFm_trans hm h2, ?_⟩
  rcases h3 with ⟨P2, s1, q, st2, a1, a2, a3, a4, a4', a5, a6, a7, a8⟩ | ⟨s1, a1, a2, a3⟩ | ⟨s1, q, s2, a1, a2, a3, a4, a5⟩
  · exact Or.inl ⟨P2, s1, q, st2, a1, a2, a3, by omega, a4', a5, a6, a7, sFc_trans hc a8⟩
  · exact Or.inr (Or.inl ⟨s1, a1, a2, sFc_trans hc a3⟩)
  · exact Or.inr (Or.inr ⟨s1, q, s2, a1, a2, a3, a4, sFc_trans hc a5⟩)
theorem tOkay_q {st : Nat} {s2 t2 : ga_M} (h : tOkay T L st s t) (e1 : s2 45 = s 45) (e2 : s2 47 = s 47) (f : dFq t t2) : tOkay T L st s2 t2 := by
  unfold tOkay cK mK cX mX at *
  rw [e1, e2, f.2 13 (by omega) (by omega), f.2 14 (by omega) (by omega), f.2 15 (by omega) (by omega), f.2 16 (by omega) (by omega), f.2 17 (by omega) (by omega), f.1 80 (by omega) (by omega) (by omega) (by omega)]
  exact h
theorem perf_7 (b c : Int32) (u : ga_M) : f_X2_perform 7 b c u = f_X2_perform 7 b 0 u := by
  rw [fe_X2_perform]; unfold fb_X2_perform
  simp only [show ((7 : Int32) = 0) = False from eq_false (by decide), show ((7 : Int32) = 1) = False from eq_false (by decide), show ((7 : Int32) = 2) = False from eq_false (by decide), show ((7 : Int32) = 3) = False from eq_false (by decide), show ((7 : Int32) = 4) = False from eq_false (by decide), show ((7 : Int32) = 5) = False from eq_false (by decide), show ((7 : Int32) = 6) = False from eq_false (by decide), show ((7 : Int32) = 7) = True from eq_true rfl, show ((7 : Int32) = 8) = False from eq_false (by decide), show ((7 : Int32) = 9) = False from eq_false (by decide), if_true, if_false]
theorem perf_8 (b c : Int32) (u : ga_M) : f_X2_perform 8 b c u = f_X2_perform 8 b 0 u := by
  rw [fe_X2_perform]; unfold fb_X2_perform
  simp only [show ((8 : Int32) = 0) = False from eq_false (by decide), show ((8 : Int32) = 1) = False from eq_false (by decide), show ((8 : Int32) = 2) = False from eq_false (by decide), show ((8 : Int32) = 3) = False from eq_false (by decide), show ((8 : Int32) = 4) = False from eq_false (by decide), show ((8 : Int32) = 5) = False from eq_false (by decide), show ((8 : Int32) = 6) = False from eq_false (by decide), show ((8 : Int32) = 7) = False from eq_false (by decide), show ((8 : Int32) = 8) = True from eq_true rfl, show ((8 : Int32) = 9) = False from eq_false (by decide), if_true, if_false]
theorem perf_9 (b c : Int32) (u : ga_M) : f_X2_perform 9 b c u = f_X2_perform 9 0 0 u := by
  rw [fe_X2_perform]; unfold fb_X2_perform
  simp only [show ((9 : Int32) = 0) = False from eq_false (by decide), show ((9 : Int32) = 1) = False from eq_false (by decide), show ((9 : Int32) = 2) = False from eq_false (by decide), show ((9 : Int32) = 3) = False from eq_false (by decide), show ((9 : Int32) = 4) = False from eq_false (by decide), show ((9 : Int32) = 5) = False from eq_false (by decide), show ((9 : Int32) = 6) = False from eq_false (by decide), show ((9 : Int32) = 7) = False from eq_false (by decide), show ((9 : Int32) = 8) = False from eq_false (by decide), show ((9 : Int32) = 9) = True from eq_true rfl, if_true, if_false]
end D57
