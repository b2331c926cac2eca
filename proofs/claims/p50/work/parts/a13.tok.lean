section D43
/-! ===== tokens: the text T of the length L ===== -/
def tB (T : Nat → Nat) (L i : Nat) : Nat := if i < L then T i else 256
def tRun (p : Nat → Bool) (T : Nat → Nat) (L : Nat) : Nat → Nat → Nat
  | 0, i => i
  | n + 1, i => if p (tB T L i) = true then tRun p T L n (i + 1) else i
def tBl (c : Nat) : Bool := decide (c = 32) || decide (c = 10)
def tLe (c : Nat) : Bool := decide (97 ≤ c) && decide (c ≤ 122)
def tDi (c : Nat) : Bool := decide (48 ≤ c) && decide (c ≤ 57)
def tS (T : Nat → Nat) (L e : Nat) : Nat := tRun tBl T L 901 e
def tE (T : Nat → Nat) (L st : Nat) : Nat := if L ≤ st then L else if tLe (tB T L st) = true then tRun tLe T L 901 st else if tDi (tB T L st) = true then tRun tDi T L 901 st else st + 1
def tK (T : Nat → Nat) (L st : Nat) : Nat := if L ≤ st then 0 else if tLe (tB T L st) = true then 1 else if tDi (tB T L st) = true then 2 else if tB T L st = 59 then 3 else 4
def tX (T : Nat → Nat) (L st : Nat) : Nat := tS T L (tE T L st)
variable {T : Nat → Nat} {L : Nat}
theorem tRun_spec {p : Nat → Bool} (hp : p 256 = false) : ∀ n i, L - i < n → i ≤ L → i ≤ tRun p T L n i ∧ tRun p T L n i ≤ L ∧ p (tB T L (tRun p T L n i)) = false ∧ ∀ j, i ≤ j → j < tRun p T L n i → p (tB T L j) = true := by
  intro n
  induction n with
  | zero => intro i h; omega
  | succ n ih =>
    intro i hn hi
    unfold tRun
    by_cases c : p (tB T L i) = true
    · rw [if_pos c]
      have hlt : i < L := by
        by_cases h : i < L
        · exact h
        · unfold tB at c; rw [if_neg h, hp] at c; cases c
      obtain ⟨h1, h2, h3, h4⟩ := ih (i + 1) (by omega) (by omega)
      refine ⟨by omega, h2, h3, fun j hj1 hj2 => ?_⟩
      by_cases e : j = i
      · subst e; exact c
      · exact h4 j (by omega) hj2
    · rw [if_neg c]
      exact ⟨Nat.le_refl _, hi, by simpa using c, fun j h1 h2 => by omega⟩
theorem tRun_fuel {p : Nat → Bool} (hp : p 256 = false) : ∀ n m i, L - i < n → L - i < m → i ≤ L → tRun p T L n i = tRun p T L m i := by
  intro n
  induction n with
  | zero => intro m i h; omega
  | succ n ih =>
    intro m i hn hm hi
    obtain ⟨m, rfl⟩ : ∃ k, m = k + 1 := ⟨m - 1, by omega⟩
    unfold tRun
    by_cases c : p (tB T L i) = true
    · have hlt : i < L := by
        by_cases h : i < L
        · exact h
        · unfold tB at c; rw [if_neg h, hp] at c; cases c
      rw [if_pos c, if_pos c, ih m (i + 1) (by omega) (by omega) (by omega)]
    · rw [if_neg c, if_neg c]
theorem tE_le (hL : L ≤ 900) {st : Nat} (h : st ≤ L) : st ≤ tE T L st ∧ tE T L st ≤ L := by
  unfold tE
  split
  · omega
  · split
    · have := tRun_spec (T := T) (p := tLe) rfl 901 st (by omega) h; omega
    · split
      · have := tRun_spec (T := T) (p := tDi) rfl 901 st (by omega) h; omega
      · omega
theorem tS_le (hL : L ≤ 900) {e : Nat} (h : e ≤ L) : e ≤ tS T L e ∧ tS T L e ≤ L := by
  have := tRun_spec (T := T) (p := tBl) rfl 901 e (by omega) h
  unfold tS; omega
theorem tX_le (hL : L ≤ 900) {st : Nat} (h : st ≤ L) : tX T L st ≤ L := (tS_le hL (tE_le hL h).2).2
/-- the number of the digits from i on -/
def tN (T : Nat → Nat) : Nat → Nat → Nat → Nat
  | 0, _, v => v
  | k + 1, i, v => tN T k (i + 1) (v * 10 + (T i - 48))
theorem tN_snoc : ∀ k i v, tN T (k + 1) i v = tN T k i v * 10 + (T (i + k) - 48) := by
  intro k
  induction k with
  | zero => intro i v; rfl
  | succ k ih =>
    intro i v
    show tN T (k + 1) (i + 1) (v * 10 + (T i - 48)) = tN T k (i + 1) (v * 10 + (T i - 48)) * 10 + _
    rw [ih, show i + 1 + k = i + (k + 1) by omega]
def tV (T : Nat → Nat) (L st : Nat) : Nat := tN T (tE T L st - st) st 0
/-- the class's token at st; the reference's -/
def cX (T : Nat → Nat) (L : Nat) (s : ga_M) : Prop := s 45 1 = nI L ∧ ∀ i, i < L → s 47 i = nI (T i)
def mX (T : Nat → Nat) (L : Nat) (s : ga_M) : Prop := s 72 15 = nI L ∧ ∀ i, i < L → s 80 i &&& 255 = nI (T i)
def cK (T : Nat → Nat) (L st : Nat) (s : ga_M) : Prop := cX T L s ∧ st ≤ L ∧ s 45 2 = nI (tK T L st) ∧ s 45 3 = nI st ∧ s 45 4 = nI (tE T L st) ∧ (tK T L st = 2 → s 45 5 = nI (min (tV T L st) 1000000))
def mK (T : Nat → Nat) (L st : Nat) (s : ga_M) : Prop := mX T L s ∧ st ≤ L ∧ s 72 13 = nI st ∧ s 72 14 = nI (tE T L st)
def tOk (T : Nat → Nat) (L : Nat) : Prop := L ≤ 900 ∧ ∀ i, i < L → T i < 256
variable {s : ga_M}
theorem tB_lt {i : Nat} (h : i < L) : tB T L i = T i := if_pos h
theorem tB_ge {i : Nat} (h : L ≤ i) : tB T L i = 256 := if_neg (by omega)
theorem d_isLetter (c : Nat) (hc : c < 257) : v_X10_isLetter (nI c) s = aB (tLe c) := by
  rw [ve_X10_isLetter]; unfold vb_X10_isLetter tLe
  have e1 : (nI c < 97) ↔ c < 97 := nI_ltI (b := 97) (by omega) (by omega)
  have e2 : ((122 : Int32) < nI c) ↔ 122 < c := nI_ltI (a := 122) (by omega) (by omega)
  by_cases c1 : c < 97
  · rw [if_pos (e1.mpr c1), decide_eq_false (by omega)]; rfl
  · rw [if_neg (fun h => c1 (e1.mp h)), decide_eq_true (by omega)]
    by_cases c2 : 122 < c
    · rw [if_pos (e2.mpr c2), decide_eq_false (by omega)]; rfl
    · rw [if_neg (fun h => c2 (e2.mp h)), decide_eq_true (by omega)]; rfl
theorem d_isDigit (c : Nat) (hc : c < 257) : v_X10_isDigit (nI c) s = aB (tDi c) := by
  rw [ve_X10_isDigit]; unfold vb_X10_isDigit tDi
  have e1 : (nI c < 48) ↔ c < 48 := nI_ltI (b := 48) (by omega) (by omega)
  have e2 : ((57 : Int32) < nI c) ↔ 57 < c := nI_ltI (a := 57) (by omega) (by omega)
  by_cases c1 : c < 48
  · rw [if_pos (e1.mpr c1), decide_eq_false (by omega)]; rfl
  · rw [if_neg (fun h => c1 (e1.mp h)), decide_eq_true (by omega)]
    by_cases c2 : 57 < c
    · rw [if_pos (e2.mpr c2), decide_eq_false (by omega)]; rfl
    · rw [if_neg (fun h => c2 (e2.mp h)), decide_eq_true (by omega)]; rfl
/-- the reference's byte -/
def tY (T : Nat → Nat) (L i : Nat) : Int32 := if i < L then nI (T i) else -1
theorem tY_eq (hT : tOk T L) (i : Nat) {c : Nat} (hc : c < 256) : (tY T L i = nI c) = (tB T L i = c) := by
  unfold tY
  by_cases h : i < L
  · rw [if_pos h, tB_lt h, d_eq (by have := hT.2 i h; omega) (by omega)]
  · rw [if_neg h, tB_ge (by omega)]
    exact propext ⟨fun e => absurd e.symm (d_ne1 (by omega)), fun e => by omega⟩
theorem c_blanks (hT : tOk T L) (h : cX T L s) : ∀ m i n, L - i < m → L - i < n → i ≤ L → f_X10_afterBlanks_h2 n (nI i) s = some (nI (tRun tBl T L m i)) := by
  have hL := hT.1
  intro m
  induction m with
  | zero => intro i n h1; omega
  | succ m ih =>
    intro i n hm hn hi
    obtain ⟨n, rfl⟩ : ∃ k, n = k + 1 := ⟨n - 1, by omega⟩
    rw [f_X10_afterBlanks_h2, h.1]
    unfold tRun
    by_cases c : i < L
    · have h256 := hT.2 i c
      rw [if_neg (nI_ge c (by omega)), d_at (show i < 900 by omega) (by omega), h.2 i c, tB_lt c, d_p1]
      have e1 : (nI (T i) = 32) = (T i = 32) := d_eq (b := 32) (by omega) (by omega)
      have e2 : (nI (T i) = 10) = (T i = 10) := d_eq (b := 10) (by omega) (by omega)
      simp only [e1, e2, tBl, Bool.or_eq_true, decide_eq_true_eq]
      rw [ih (i + 1) n (by omega) (by omega) (by omega)]
      by_cases c1 : T i = 32
      · rw [if_pos c1, if_pos (Or.inl c1)]
      · rw [if_neg c1]
        by_cases c2 : T i = 10
        · rw [if_pos c2, if_pos (Or.inr c2)]
        · rw [if_neg c2, if_neg (fun o => o.elim c1 c2)]
    · rw [if_pos (nI_le (by omega) (by omega)), tB_ge (by omega), if_neg (by decide)]
theorem c_letters (hT : tOk T L) (h : cX T L s) : ∀ m i n, L - i < m → L - i < n → i ≤ L → f_X10_afterLetters_h2 n (nI i) s = some (nI (tRun tLe T L m i)) := by
  have hL := hT.1
  intro m
  induction m with
  | zero => intro i n h1; omega
  | succ m ih =>
    intro i n hm hn hi
    obtain ⟨n, rfl⟩ : ∃ k, n = k + 1 := ⟨n - 1, by omega⟩
    rw [f_X10_afterLetters_h2, h.1]
    unfold tRun
    by_cases c : i < L
    · have h256 := hT.2 i c
      rw [if_neg (nI_ge c (by omega)), d_at (show i < 900 by omega) (by omega), h.2 i c, tB_lt c, d_p1, d_isLetter _ (by omega), ih (i + 1) n (by omega) (by omega) (by omega)]
      cases c1 : tLe (T i)
      · rw [if_pos (show aB false = 0 from rfl), if_neg (by decide)]
      · rw [if_neg (show ¬ aB true = 0 by decide), if_pos rfl]
    · rw [if_pos (nI_le (by omega) (by omega)), tB_ge (by omega), if_neg (by decide)]
theorem d_min (a b : Int32) : v_J9_min_7cf53 a b s = if b < a then b else a := by rw [ve_J9_min_7cf53]; rfl
theorem c_digits (hT : tOk T L) {st : Nat} : ∀ m i n (s : ga_M), cX T L s → L - i < m → L - i < n → st ≤ i → i ≤ L → s 45 5 = nI (min (tN T (i - st) st 0) 1000000) → ∃ s2, f_X10_afterDigits_h7 n (nI i) s = some (nI (tRun tDi T L m i), s2) ∧ (∀ c, c ≠ 45 → s2 c = s c) ∧ (∀ f, f ≠ 5 → s2 45 f = s 45 f) ∧ s2 45 5 = nI (min (tN T (tRun tDi T L m i - st) st 0) 1000000) := by
  have hL := hT.1
  intro m
  induction m with
  | zero => intro i n s h h1; omega
  | succ m ih =>
    intro i n s h hm hn hst hi h5
    obtain ⟨n, rfl⟩ : ∃ k, n = k + 1 := ⟨n - 1, by omega⟩
    rw [f_X10_afterDigits_h7]
    dsimp only
    rw [h.1]
    unfold tRun
    by_cases c : i < L
    · have h256 := hT.2 i c
      rw [if_neg (nI_ge c (by omega)), d_at (show i < 900 by omega) (by omega), h.2 i c, tB_lt c, d_p1, d_isDigit _ (by omega)]
      cases c1 : tDi (T i)
      · rw [if_pos (show aB false = 0 from rfl), if_neg (by decide)]
        exact ⟨s, rfl, fun _ _ => rfl, fun _ _ => rfl, h5⟩
      · rw [if_neg (show ¬ aB true = 0 by decide), if_pos rfl]
        unfold tDi at c1
        rw [Bool.and_eq_true, decide_eq_true_eq, decide_eq_true_eq] at c1
        have hv : (nI (min (tN T (i - st) st 0) 1000000) * 10 + nI (T i)) - 48 = nI (min (tN T (i - st) st 0) 1000000 * 10 + T i - 48) := by
          rw [show nI (min (tN T (i - st) st 0) 1000000) * 10 = nI (min (tN T (i - st) st 0) 1000000 * 10) from pk_mul _ 10, nI_add, show (48 : Int32) = nI 48 from rfl, pk_sub (by omega)]
        have hmn : v_J9_min_7cf53 ((s 45 5 * 10 + nI (T i)) - 48) 1000000 s = nI (min (tN T (i + 1 - st) st 0) 1000000) := by
          rw [h5, hv, d_min, show i + 1 - st = (i - st) + 1 by omega, tN_snoc, show st + (i - st) = i by omega]
          generalize tN T (i - st) st 0 = v
          have e : ((1000000 : Int32) < nI (min v 1000000 * 10 + T i - 48)) ↔ 1000000 < min v 1000000 * 10 + T i - 48 := nI_ltI (a := 1000000) (by omega) (by omega)
          by_cases c2 : 1000000 < min v 1000000 * 10 + T i - 48
          · rw [if_pos (e.mpr c2), show (1000000 : Int32) = nI 1000000 from rfl]
            congr 1; omega
          · rw [if_neg (fun h => c2 (e.mp h))]
            congr 1; omega
        obtain ⟨s2, e2, f2, g2, k2⟩ := ih (i + 1) n (ga_up s 45 5 (v_J9_min_7cf53 ((s 45 5 * 10 + nI (T i)) - 48) 1000000 s)) ⟨by rw [d_up_nk (by omega)]; exact h.1, by rw [d_up_ne (by decide)]; exact h.2⟩ (by omega) (by omega) (by omega) (by omega) (by rw [d_up_eq]; exact hmn)
        exact ⟨s2, e2, fun a ha => by rw [f2 a ha, d_up_ne ha], fun f hf => by rw [g2 f hf, d_up_nk (by omega)], k2⟩
    · rw [if_pos (nI_le (by omega) (by omega)), tB_ge (by omega), if_neg (by decide)]
      exact ⟨s, rfl, fun _ _ => rfl, fun _ _ => rfl, h5⟩
/-- the next token of the class -/
theorem c_next (hT : tOk T L) {e : Nat} (he : e ≤ L) (h : cX T L s) (h4 : s 45 4 = nI e) : ∃ s2, f_X10_next s = some s2 ∧ cK T L (tS T L e) s2 ∧ (∀ c, c ≠ 45 → s2 c = s c) ∧ s2 45 6 = s 45 6 ∧ s2 45 7 = s 45 7 := by
  have hL := hT.1
  have hS := tS_le (T := T) hL he
  rw [fe_X10_next]; unfold fb_X10_next
  rw [h4, fe_X10_afterBlanks]
  unfold fb_X10_afterBlanks
  rw [c_blanks hT h 901 e ga_fuel (by omega) (by have := d_fuel (n := 901) (by omega); omega) he, Option.bind_some]
  rw [show tRun tBl T L 901 e = tS T L e from rfl]
  generalize tS T L e = st at hS ⊢
  dsimp only
  generalize hs1 : ga_up (ga_up s 45 3 (nI st)) 45 4 ((ga_up s 45 3 (nI st)) 45 3 + 1) = s1
  have f1 : ∀ f, f ≠ 3 → f ≠ 4 → s1 45 f = s 45 f := fun f a b => by rw [← hs1, d_up_nk (by omega), d_up_nk (by omega)]
  have g1 : ∀ c, c ≠ 45 → s1 c = s c := fun c a => by rw [← hs1, d_up_ne a, d_up_ne a]
  have e3 : s1 45 3 = nI st := by rw [← hs1, d_up_nk (by omega), d_up_eq]
  have e4 : s1 45 4 = nI (st + 1) := by rw [← hs1, d_up_eq, d_up_eq, d_p1]
  have hX1 : cX T L s1 := ⟨by rw [f1 1 (by omega) (by omega)]; exact h.1, by rw [g1 47 (by omega)]; exact h.2⟩
  have hXu : ∀ (t : ga_M) f v, cX T L t → f ≠ 1 → cX T L (ga_up t 45 f v) := fun t f v ht hf => ⟨by rw [d_up_nk (by omega)]; exact ht.1, by rw [d_up_ne (by decide)]; exact ht.2⟩
  rw [e3, show s1 45 1 = nI L from hX1.1]
  unfold cK tK tE
  by_cases c : st < L
  · have h256 := hT.2 st c
    rw [if_pos (nI_lt c (by omega)), d_at (show st < 900 by omega) (by omega), hX1.2 st c, d_isLetter _ (by omega), d_isDigit _ (by omega), if_neg (show ¬ L ≤ st by omega), if_neg (show ¬ L ≤ st by omega), tB_lt c]
    cases c1 : tLe (T st)
    · simp only [aB_0, eq_self, Bool.true_eq_false, Bool.false_eq_true, if_true, if_false, reduceIte]
      cases c2 : tDi (T st)
      · simp only [aB_0, eq_self, Bool.true_eq_false, Bool.false_eq_true, if_true, if_false, reduceIte]
        have e59 : (nI (T st) = 59) = (T st = 59) := d_eq (b := 59) (by omega) (by omega)
        by_cases c3 : T st = 59
        · rw [if_pos (by rw [e59]; exact c3), if_pos c3]
          exact ⟨_, rfl, ⟨hXu _ _ _ hX1 (by omega), hS.2, d_up_eq, by rw [d_up_nk (by omega)]; exact e3, by rw [d_up_nk (by omega)]; exact e4, fun q => by cases q⟩, fun a ha => by rw [d_up_ne ha, g1 a ha], by rw [d_up_nk (by omega), f1 6 (by omega) (by omega)], by rw [d_up_nk (by omega), f1 7 (by omega) (by omega)]⟩
        · rw [if_neg (by rw [e59]; exact c3), if_neg c3]
          exact ⟨_, rfl, ⟨hXu _ _ _ hX1 (by omega), hS.2, d_up_eq, by rw [d_up_nk (by omega)]; exact e3, by rw [d_up_nk (by omega)]; exact e4, fun q => by cases q⟩, fun a ha => by rw [d_up_ne ha, g1 a ha], by rw [d_up_nk (by omega), f1 6 (by omega) (by omega)], by rw [d_up_nk (by omega), f1 7 (by omega) (by omega)]⟩
      · simp only [aB_0, eq_self, Bool.true_eq_false, Bool.false_eq_true, if_true, if_false, reduceIte]
        rw [d_up_nk (by omega), e3, fe_X10_afterDigits]
        unfold fb_X10_afterDigits
        dsimp only
        obtain ⟨s2, g2, k2, l2, m2⟩ := c_digits (st := st) hT 901 st ga_fuel (ga_up (ga_up s1 45 2 2) 45 5 0) (hXu _ _ _ (hXu _ _ _ hX1 (by omega)) (by omega)) (by omega) (by have := d_fuel (n := 901) (by omega); omega) (Nat.le_refl _) hS.2 (by rw [d_up_eq, Nat.sub_self]; rfl)
        rw [g2, Option.bind_some]
        refine ⟨ga_up s2 45 4 (nI (tRun tDi T L 901 st)), rfl, ⟨⟨?_, ?_⟩, hS.2, ?_, ?_, d_up_eq, fun _ => ?_⟩, fun a ha => ?_, ?_, ?_⟩
        · rw [d_up_nk (by omega), l2 1 (by omega), d_up_nk (by omega), d_up_nk (by omega)]; exact hX1.1
        · rw [d_up_ne (by decide), k2 47 (by omega), d_up_ne (by decide), d_up_ne (by decide)]; exact hX1.2
        · rw [d_up_nk (by omega), l2 2 (by omega), d_up_nk (by omega), d_up_eq]; rfl
        · rw [d_up_nk (by omega), l2 3 (by omega), d_up_nk (by omega), d_up_nk (by omega)]; exact e3
        · rw [d_up_nk (by omega), m2]
          unfold tV tE
          rw [if_neg (show ¬ L ≤ st by omega), tB_lt c, c1, c2]
          simp only [aB_0, eq_self, Bool.true_eq_false, Bool.false_eq_true, if_true, if_false, reduceIte]
        · rw [d_up_ne ha, k2 a ha, d_up_ne ha, d_up_ne ha, g1 a ha]
        · rw [d_up_nk (by omega), l2 6 (by omega), d_up_nk (by omega), d_up_nk (by omega), f1 6 (by omega) (by omega)]
        · rw [d_up_nk (by omega), l2 7 (by omega), d_up_nk (by omega), d_up_nk (by omega), f1 7 (by omega) (by omega)]
    · simp only [aB_0, eq_self, Bool.true_eq_false, Bool.false_eq_true, if_true, if_false, reduceIte]
      rw [d_up_nk (by omega), e3, fe_X10_afterLetters]
      unfold fb_X10_afterLetters
      rw [c_letters hT (hXu _ _ _ hX1 (by omega)) 901 st ga_fuel (by omega) (by have := d_fuel (n := 901) (by omega); omega) hS.2, Option.bind_some]
      refine ⟨_, rfl, ⟨hXu _ _ _ (hXu _ _ _ hX1 (by omega)) (by omega), hS.2, by rw [d_up_nk (by omega), d_up_eq]; rfl, by rw [d_up_nk (by omega), d_up_nk (by omega)]; exact e3, d_up_eq, fun q => by cases q⟩, fun a ha => by rw [d_up_ne ha, d_up_ne ha, g1 a ha], by rw [d_up_nk (by omega), d_up_nk (by omega), f1 6 (by omega) (by omega)], by rw [d_up_nk (by omega), d_up_nk (by omega), f1 7 (by omega) (by omega)]⟩
  · have hst : st = L := by omega
    rw [if_neg (nI_nlt (show L ≤ st by omega) (by omega)), if_pos (show L ≤ st by omega), if_pos (show L ≤ st by omega)]
    refine ⟨_, rfl, ⟨hXu _ _ _ (hXu _ _ _ hX1 (by omega)) (by omega), hS.2, by rw [d_up_nk (by omega), d_up_eq]; rfl, by rw [d_up_nk (by omega), d_up_nk (by omega)]; exact e3, by rw [d_up_eq, d_up_nk (by omega)]; exact hX1.1, fun q => by cases q⟩, fun a ha => by rw [d_up_ne ha, d_up_ne ha, g1 a ha], by rw [d_up_nk (by omega), d_up_nk (by omega), f1 6 (by omega) (by omega)], by rw [d_up_nk (by omega), d_up_nk (by omega), f1 7 (by omega) (by omega)]⟩
end D43
