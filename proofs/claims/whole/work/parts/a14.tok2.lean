section D44
/-! ===== tokens: the reference; words, numbers ===== -/
variable {T : Nat → Nat} {L : Nat} {s t : ga_M}
def tF (s s2 : ga_M) : Prop := ∀ c, c ≠ 45 → s2 c = s c
def mF (s s2 : ga_M) : Prop := (∀ c, c ≠ 72 → s2 c = s c) ∧ ∀ f, f ≠ 13 → f ≠ 14 → f ≠ 16 → f ≠ 17 → s2 72 f = s 72 f
theorem tF_refl (s : ga_M) : tF s s := fun _ _ => rfl
theorem tF_trans {s s1 s2 : ga_M} (h : tF s s1) (h2 : tF s1 s2) : tF s s2 := fun c hc => (h2 c hc).trans (h c hc)
theorem mF_refl (s : ga_M) : mF s s := ⟨fun _ _ => rfl, fun _ _ _ _ _ => rfl⟩
theorem mF_trans {s s1 s2 : ga_M} (h : mF s s1) (h2 : mF s1 s2) : mF s s2 := ⟨fun c hc => (h2.1 c hc).trans (h.1 c hc), fun f a b c d => (h2.2 f a b c d).trans (h.2 f a b c d)⟩
theorem mX_up {f : Nat} {v : Int32} (h : mX T L t) (hf : f ≠ 15) : mX T L (ga_up t 72 f v) := ⟨by rw [d_up_nk (by omega)]; exact h.1, by rw [d_up_ne (by decide)]; exact h.2⟩
theorem m_run66 (hT : tOk T L) : ∀ m i n (t : ga_M), mX T L t → L - i < m → L - i < n → i ≤ L → t 72 14 = nI i → ∃ t2, f_X12_next_h66 n t = some t2 ∧ (∀ c, c ≠ 72 → t2 c = t c) ∧ (∀ f, f ≠ 14 → t2 72 f = t 72 f) ∧ t2 72 14 = nI (tRun tLe T L m i) := by
  have hL := hT.1
  intro m
  induction m with
  | zero => intro i n t h h1; omega
  | succ m ih =>
    intro i n t h hm hn hi h14
    obtain ⟨n, rfl⟩ : ∃ k, n = k + 1 := ⟨n - 1, by omega⟩
    rw [f_X12_next_h66]
    dsimp only
    rw [h14, m_isLetterAt hT h (by omega), Option.bind_some, d_p1]
    unfold tRun
    cases c : tLe (tB T L i)
    · simp only [aB_0, eq_self, Bool.true_eq_false, Bool.false_eq_true, if_true, if_false, reduceIte]
      exact ⟨t, rfl, fun _ _ => rfl, fun _ _ => rfl, h14⟩
    · simp only [aB_0, eq_self, Bool.true_eq_false, Bool.false_eq_true, if_true, if_false, reduceIte]
      have hlt : i < L := by
        by_cases q : i < L
        · exact q
        · rw [tB_ge (by omega)] at c; cases c
      obtain ⟨t2, e2, f2, g2, k2⟩ := ih (i + 1) n (ga_up t 72 14 (nI (i + 1))) (mX_up h (by omega)) (by omega) (by omega) (by omega) d_up_eq
      exact ⟨t2, e2, fun a ha => by rw [f2 a ha, d_up_ne ha], fun f hf => by rw [g2 f hf, d_up_nk (by omega)], k2⟩
theorem m_run101 (hT : tOk T L) : ∀ m i n (t : ga_M), mX T L t → L - i < m → L - i < n → i ≤ L → t 72 14 = nI i → ∃ t2, f_X12_next_h101 n t = some t2 ∧ (∀ c, c ≠ 72 → t2 c = t c) ∧ (∀ f, f ≠ 14 → t2 72 f = t 72 f) ∧ t2 72 14 = nI (tRun tDi T L m i) := by
  have hL := hT.1
  intro m
  induction m with
  | zero => intro i n t h h1; omega
  | succ m ih =>
    intro i n t h hm hn hi h14
    obtain ⟨n, rfl⟩ : ∃ k, n = k + 1 := ⟨n - 1, by omega⟩
    rw [f_X12_next_h101]
    dsimp only
    rw [h14, m_isDigitAt hT h (by omega), Option.bind_some, d_p1]
    unfold tRun
    cases c : tDi (tB T L i)
    · simp only [aB_0, eq_self, Bool.true_eq_false, Bool.false_eq_true, if_true, if_false, reduceIte]
      exact ⟨t, rfl, fun _ _ => rfl, fun _ _ => rfl, h14⟩
    · simp only [aB_0, eq_self, Bool.true_eq_false, Bool.false_eq_true, if_true, if_false, reduceIte]
      have hlt : i < L := by
        by_cases q : i < L
        · exact q
        · rw [tB_ge (by omega)] at c; cases c
      obtain ⟨t2, e2, f2, g2, k2⟩ := ih (i + 1) n (ga_up t 72 14 (nI (i + 1))) (mX_up h (by omega)) (by omega) (by omega) (by omega) d_up_eq
      exact ⟨t2, e2, fun a ha => by rw [f2 a ha, d_up_ne ha], fun f hf => by rw [g2 f hf, d_up_nk (by omega)], k2⟩
theorem m_run8 (hT : tOk T L) : ∀ m i n (t : ga_M), mX T L t → L - i < m → L - i < n → i ≤ L → t 72 13 = nI i → ∃ t2, f_X12_next_h8 n t = some t2 ∧ mF t t2 ∧ t2 72 16 = t 72 16 ∧ t2 72 17 = t 72 17 ∧ mK T L (tRun tBl T L m i) t2 := by
  have hL := hT.1
  intro m
  induction m with
  | zero => intro i n t h h1; omega
  | succ m ih =>
    intro i n t h hm hn hi h13
    obtain ⟨n, rfl⟩ : ∃ k, n = k + 1 := ⟨n - 1, by omega⟩
    rw [f_X12_next_h8]
    dsimp only
    rw [h13, m_byteAt hT h (by omega), Option.bind_some, Option.bind_some, d_p1]
    have e32 : (tY T L i = 32) = (tB T L i = 32) := tY_eq hT i (c := 32) (by omega)
    have e10 : (tY T L i = 10) = (tB T L i = 10) := tY_eq hT i (c := 10) (by omega)
    simp only [e32, e10]
    unfold tRun
    have blank : tBl (tB T L i) = true → ∃ t2, f_X12_next_h8 n (ga_up t 72 13 (nI (i + 1))) = some t2 ∧ mF t t2 ∧ t2 72 16 = t 72 16 ∧ t2 72 17 = t 72 17 ∧ mK T L (tRun tBl T L m (i + 1)) t2 := by
      intro c
      have hlt : i < L := by
        by_cases q : i < L
        · exact q
        · rw [tB_ge (by omega)] at c; cases c
      obtain ⟨t2, e2, f2, a2, b2, k2⟩ := ih (i + 1) n (ga_up t 72 13 (nI (i + 1))) (mX_up h (by omega)) (by omega) (by omega) (by omega) d_up_eq
      exact ⟨t2, e2, ⟨fun a ha => by rw [f2.1 a ha, d_up_ne ha], fun f g1 g2 g3 g4 => by rw [f2.2 f g1 g2 g3 g4, d_up_nk (by omega)]⟩, by rw [a2, d_up_nk (by omega)], by rw [b2, d_up_nk (by omega)], k2⟩
    by_cases c1 : tB T L i = 32
    · have hb : tBl (tB T L i) = true := by unfold tBl; simp [c1]
      rw [if_pos c1, if_pos hb]
      exact blank hb
    · rw [if_neg c1]
      by_cases c2 : tB T L i = 10
      · have hb : tBl (tB T L i) = true := by unfold tBl; simp [c2]
        rw [if_pos c2, if_pos hb]
        exact blank hb
      · have hb : ¬ tBl (tB T L i) = true := by unfold tBl; simp [c1, c2]
        rw [if_neg c2, if_neg hb]
        generalize hu : ga_up t 72 14 (nI i) = u
        have hX : mX T L u := by rw [← hu]; exact mX_up h (by omega)
        have u14 : u 72 14 = nI i := by rw [← hu, d_up_eq]
        have uf : ∀ f, f ≠ 14 → u 72 f = t 72 f := fun f hf => by rw [← hu, d_up_nk (by omega)]
        have uc : ∀ c, c ≠ 72 → u c = t c := fun c hc => by rw [← hu, d_up_ne hc]
        rw [u14, m_isLetterAt hT hX (by omega), Option.bind_some, m_isDigitAt hT hX (by omega), Option.bind_some]
        unfold mK tE
        cases c3 : tLe (tB T L i)
        · cases c4 : tDi (tB T L i)
          · simp only [aB_0, eq_self, Bool.true_eq_false, Bool.false_eq_true, if_true, if_false, reduceIte]
            rw [hX.1]
            by_cases c5 : L ≤ i
            · rw [if_pos (nI_le c5 (by omega)), if_pos c5]
              exact ⟨u, rfl, ⟨uc, fun f _ g _ _ => uf f g⟩, uf 16 (by omega), uf 17 (by omega), hX, hi, by rw [uf 13 (by omega)]; exact h13, by rw [u14, show i = L by omega]⟩
            · rw [if_neg (nI_ge (by omega) (by omega)), if_neg c5, d_p1]
              exact ⟨_, rfl, ⟨fun c hc => by rw [d_up_ne hc, uc c hc], fun f _ g _ _ => by rw [d_up_nk (by omega), uf f g]⟩, by rw [d_up_nk (by omega), uf 16 (by omega)], by rw [d_up_nk (by omega), uf 17 (by omega)], mX_up hX (by omega), hi, by rw [d_up_nk (by omega), uf 13 (by omega)]; exact h13, d_up_eq⟩
          · simp only [aB_0, eq_self, Bool.true_eq_false, Bool.false_eq_true, if_true, if_false, reduceIte]
            have hlt : i < L := by
              by_cases q : i < L
              · exact q
              · rw [tB_ge (by omega)] at c4; cases c4
            obtain ⟨t2, e2, f2, g2, k2⟩ := m_run101 hT 901 i ga_fuel u hX (by omega) (by have := d_fuel (n := 901) (by omega); omega) hi u14
            rw [if_neg (show ¬ L ≤ i by omega)]
            exact ⟨t2, e2, ⟨fun c hc => by rw [f2 c hc, uc c hc], fun f _ g _ _ => by rw [g2 f g, uf f g]⟩, by rw [g2 16 (by omega), uf 16 (by omega)], by rw [g2 17 (by omega), uf 17 (by omega)], ⟨by rw [g2 15 (by omega)]; exact hX.1, by rw [f2 80 (by omega)]; exact hX.2⟩, hi, by rw [g2 13 (by omega), uf 13 (by omega)]; exact h13, k2⟩
        · simp only [aB_0, eq_self, Bool.true_eq_false, Bool.false_eq_true, if_true, if_false, reduceIte]
          have hlt : i < L := by
            by_cases q : i < L
            · exact q
            · rw [tB_ge (by omega)] at c3; cases c3
          obtain ⟨t2, e2, f2, g2, k2⟩ := m_run66 hT 901 i ga_fuel u hX (by omega) (by have := d_fuel (n := 901) (by omega); omega) hi u14
          rw [if_neg (show ¬ L ≤ i by omega)]
          exact ⟨t2, e2, ⟨fun c hc => by rw [f2 c hc, uc c hc], fun f _ g _ _ => by rw [g2 f g, uf f g]⟩, by rw [g2 16 (by omega), uf 16 (by omega)], by rw [g2 17 (by omega), uf 17 (by omega)], ⟨by rw [g2 15 (by omega)]; exact hX.1, by rw [f2 80 (by omega)]; exact hX.2⟩, hi, by rw [g2 13 (by omega), uf 13 (by omega)]; exact h13, k2⟩
theorem m_next (hT : tOk T L) {e : Nat} (he : e ≤ L) (h : mX T L t) (h4 : t 72 14 = nI e) : ∃ t2, f_X12_next t = some t2 ∧ mF t t2 ∧ t2 72 16 = t 72 16 ∧ t2 72 17 = t 72 17 ∧ mK T L (tS T L e) t2 := by
  have hL := hT.1
  rw [fe_X12_next]; unfold fb_X12_next
  dsimp only
  rw [h4]
  obtain ⟨t2, e2, f2, a2, b2, k2⟩ := m_run8 hT 901 e ga_fuel (ga_up t 72 13 (nI e)) (mX_up h (by omega)) (by omega) (by have := d_fuel (n := 901) (by omega); omega) he d_up_eq
  exact ⟨t2, e2, ⟨fun a ha => by rw [f2.1 a ha, d_up_ne ha], fun f g1 g2 g3 g4 => by rw [f2.2 f g1 g2 g3 g4, d_up_nk (by omega)]⟩, by rw [a2, d_up_nk (by omega)], by rw [b2, d_up_nk (by omega)], k2⟩
/-! words -/
def tW (T : Nat → Nat) (L st : Nat) (ws : List Nat) : Bool := decide (tE T L st - st = ws.length) && decide (∀ i, i < ws.length → tB T L (st + i) = ws.getD i 0)
def wOk (w : Nat) (ws : List Nat) : Prop := ga_tx w = some ws ∧ 0 < ws.length ∧ ws.length < 20 ∧ ∀ i, i < ws.length → ws.getD i 0 < 256
theorem w_sl {w : Nat} {ws : List Nat} (hw : wOk w ws) : ga_sl w s = some (nI ws.length) := by unfold ga_sl; rw [hw.1]; rfl
theorem w_sc {w : Nat} {ws : List Nat} (hw : wOk w ws) {i : Nat} (hi : i < ws.length) : ga_sc w (nI i) s = some (nI (ws.getD i 0)) := by
  have := hw.2.2.1
  unfold ga_sc
  rw [hw.1, Option.bind_some, if_neg (nI_in hi (by omega)), d_cl (show i < 2147483648 by omega)]; rfl
theorem d_ball {n i : Nat} {p : Nat → Prop} (hi : i < n) : (∀ j, i ≤ j → j < n → p j) ↔ (p i ∧ ∀ j, i + 1 ≤ j → j < n → p j) := by
  constructor
  · intro h; exact ⟨h i (Nat.le_refl _) hi, fun j h1 h2 => h j (by omega) h2⟩
  · rintro ⟨h1, h2⟩ j h3 h4
    by_cases e : j = i
    · rw [e]; exact h1
    · exact h2 j (by omega) h4
theorem c_isWord_l (hT : tOk T L) {st : Nat} (h : cK T L st s) {w : Nat} {ws : List Nat} (hw : wOk w ws) (hlen : tE T L st - st = ws.length) : ∀ r i n, i + r = ws.length → r < n → ((∀ j, i ≤ j → j < ws.length → tB T L (st + j) = ws.getD j 0) ∧ f_X10_isWord_h28 n w (nI i) s = some 1) ∨ ((¬ ∀ j, i ≤ j → j < ws.length → tB T L (st + j) = ws.getD j 0) ∧ f_X10_isWord_h28 n w (nI i) s = some 0) := by
  have hL := hT.1
  have hE := tE_le (T := T) hL h.2.1
  have hw20 := hw.2.2.1
  intro r
  induction r with
  | zero =>
    intro i n hi hn
    obtain ⟨n, rfl⟩ : ∃ k, n = k + 1 := ⟨n - 1, by omega⟩
    left
    refine ⟨fun j h1 h2 => by omega, ?_⟩
    rw [f_X10_isWord_h28, w_sl hw, Option.bind_some, if_pos (nI_le (by omega) (by omega))]
  | succ r ih =>
    intro i n hi hn
    obtain ⟨n, rfl⟩ : ∃ k, n = k + 1 := ⟨n - 1, by omega⟩
    have hi2 : i < ws.length := by omega
    have hlt : st + i < L := by omega
    have h256 := hT.2 (st + i) hlt
    have hc := hw.2.2.2 i hi2
    rw [f_X10_isWord_h28]
    dsimp only
    rw [w_sl hw, Option.bind_some, if_neg (nI_ge hi2 (by omega)), w_sc hw hi2, Option.bind_some, h.2.2.2.1, nI_add, d_at (show st + i < 900 by omega) (by omega), h.1.2 _ hlt, d_p1, d_ball hi2, tB_lt hlt]
    by_cases c : T (st + i) = ws.getD i 0
    · rw [if_pos (by rw [c])]
      rcases ih (i + 1) n (by omega) (by omega) with ⟨a1, a2⟩ | ⟨a1, a2⟩
      · exact Or.inl ⟨⟨c, a1⟩, a2⟩
      · exact Or.inr ⟨fun q => a1 q.2, a2⟩
    · rw [if_neg (fun e => c ((nI_eq (by omega) (by omega)).mp e))]
      exact Or.inr ⟨fun q => c q.1, rfl⟩
theorem tK_lt (T : Nat → Nat) (L st : Nat) : tK T L st < 5 := by
  unfold tK
  repeat' split
  all_goals omega
theorem c_isWord (hT : tOk T L) {st : Nat} (h : cK T L st s) {w : Nat} {ws : List Nat} (hw : wOk w ws) (hlet : tLe (ws.getD 0 0) = true) : f_X10_isWord w s = some (aB (tW T L st ws)) := by
  have hL := hT.1
  have hE := tE_le (T := T) hL h.2.1
  have hw20 := hw.2.2.1
  have hw0 := hw.2.1
  rw [fe_X10_isWord]; unfold fb_X10_isWord tW
  rw [h.2.2.1, h.2.2.2.2.1, h.2.2.2.1, w_sl hw, Option.bind_some, pk_sub hE.1]
  have hball : (∀ i, i < ws.length → tB T L (st + i) = ws.getD i 0) ↔ ∀ j, 0 ≤ j → j < ws.length → tB T L (st + j) = ws.getD j 0 := ⟨fun q j _ h2 => q j h2, fun q j h2 => q j (by omega) h2⟩
  by_cases c1 : tK T L st = 1
  · rw [c1, if_pos (show nI 1 = 1 from rfl)]
    by_cases c2 : tE T L st - st = ws.length
    · rw [if_pos (by rw [c2]), decide_eq_true c2, Bool.true_and]
      rcases c_isWord_l hT h hw c2 ws.length 0 ga_fuel (by omega) (by have := d_fuel (n := 20) (by omega); omega) with ⟨a1, a2⟩ | ⟨a1, a2⟩
      · rw [decide_eq_true (hball.mpr a1)]; exact a2
      · rw [decide_eq_false (fun q => a1 (hball.mp q))]; exact a2
    · rw [if_neg (fun e => c2 ((nI_eq (by omega) (by omega)).mp e)), decide_eq_false c2]; rfl
  · have h5 := tK_lt T L st
    rw [if_neg (show ¬ nI (tK T L st) = 1 from fun e => c1 ((nI_eq (b := 1) (by omega) (by omega)).mp e))]
    have : ¬ ∀ i, i < ws.length → tB T L (st + i) = ws.getD i 0 := fun q => by
      have q0 := q 0 hw0
      rw [Nat.add_zero] at q0
      have hlt : st < L := by
        by_cases z : st < L
        · exact z
        · rw [tB_ge (by omega)] at q0
          have := hw.2.2.2 0 hw0
          omega
      refine c1 ?_
      unfold tK
      rw [if_neg (show ¬ L ≤ st by omega), q0, hlet, if_pos rfl]
    rw [decide_eq_false this, Bool.and_false]; rfl
theorem m_isWord_l (hT : tOk T L) {st : Nat} (h : mX T L t) (h13 : t 72 13 = nI st) (hst : st ≤ L) {w : Nat} {ws : List Nat} (hw : wOk w ws) : ∀ r i n, i + r = ws.length → r < n → ((∀ j, i ≤ j → j < ws.length → tB T L (st + j) = ws.getD j 0) ∧ f_X12_isWord_h31 n w 1 (nI i) t = some 1) ∨ ((¬ ∀ j, i ≤ j → j < ws.length → tB T L (st + j) = ws.getD j 0) ∧ f_X12_isWord_h31 n w 1 (nI i) t = some 0) := by
  have hL := hT.1
  have hw20 := hw.2.2.1
  intro r
  induction r with
  | zero =>
    intro i n hi hn
    obtain ⟨n, rfl⟩ : ∃ k, n = k + 1 := ⟨n - 1, by omega⟩
    left
    refine ⟨fun j h1 h2 => by omega, ?_⟩
    rw [f_X12_isWord_h31, w_sl hw, Option.bind_some, if_pos (nI_le (by omega) (by omega))]
  | succ r ih =>
    intro i n hi hn
    obtain ⟨n, rfl⟩ : ∃ k, n = k + 1 := ⟨n - 1, by omega⟩
    have hi2 : i < ws.length := by omega
    have hc := hw.2.2.2 i hi2
    rw [f_X12_isWord_h31]
    dsimp only
    rw [w_sl hw, Option.bind_some, if_neg (nI_ge hi2 (by omega)), if_neg (by decide), h13, nI_add, m_byteAt hT h (by omega), Option.bind_some, w_sc hw hi2, Option.bind_some, d_p1, d_ball hi2]
    by_cases c : tB T L (st + i) = ws.getD i 0
    · rw [if_pos (by rw [tY_eq hT _ hc]; exact c)]
      rcases ih (i + 1) n (by omega) (by omega) with ⟨a1, a2⟩ | ⟨a1, a2⟩
      · exact Or.inl ⟨⟨c, a1⟩, a2⟩
      · exact Or.inr ⟨fun q => a1 q.2, a2⟩
    · rw [if_neg (by rw [tY_eq hT _ hc]; exact c)]
      refine Or.inr ⟨fun q => c q.1, ?_⟩
      cases n with
      | zero => omega
      | succ n =>
        rw [f_X12_isWord_h31, w_sl hw, Option.bind_some]
        split
        · rfl
        · rfl
theorem m_isWord0 {w : Nat} {ws : List Nat} (hw : wOk w ws) : f_X12_isWord_h31 ga_fuel w 0 0 t = some 0 := by
  obtain ⟨n, hn⟩ : ∃ n, ga_fuel = n + 1 := ⟨ga_fuel - 1, by have := d_fuel (n := 10) (by omega); omega⟩
  rw [hn, f_X12_isWord_h31, w_sl hw, Option.bind_some]
  split
  · rfl
  · rfl
theorem m_isWord (hT : tOk T L) {st : Nat} (h : mK T L st t) (h16 : t 72 16 = 0) {w : Nat} {ws : List Nat} (hw : wOk w ws) : f_X12_isWord w t = some (aB (tW T L st ws)) := by
  have hL := hT.1
  have hE := tE_le (T := T) hL h.2.1
  have hw20 := hw.2.2.1
  rw [fe_X12_isWord]; unfold fb_X12_isWord tW
  rw [h16, if_pos rfl, w_sl hw, Option.bind_some, h.2.2.1, h.2.2.2, pk_sub hE.1]
  have hball : (∀ i, i < ws.length → tB T L (st + i) = ws.getD i 0) ↔ ∀ j, 0 ≤ j → j < ws.length → tB T L (st + j) = ws.getD j 0 := ⟨fun q j _ h2 => q j h2, fun q j h2 => q j (by omega) h2⟩
  by_cases c2 : tE T L st - st = ws.length
  · rw [if_pos (by rw [c2]), decide_eq_true c2, Bool.true_and]
    rcases m_isWord_l hT h.1 h.2.2.1 h.2.1 hw ws.length 0 ga_fuel (by omega) (by have := d_fuel (n := 20) (by omega); omega) with ⟨a1, a2⟩ | ⟨a1, a2⟩
    · rw [decide_eq_true (hball.mpr a1)]; exact a2
    · rw [decide_eq_false (fun q => a1 (hball.mp q))]; exact a2
  · rw [if_neg (fun e => c2 ((nI_eq (by omega) (by omega)).mp e)), decide_eq_false c2, m_isWord0 hw]; rfl
def mZ (t : ga_M) : Prop := ∃ c, 0 < c ∧ c < 10 ∧ t 72 16 = nI c
theorem z_ne (h : mZ t) : ¬ t 72 16 = 0 := by
  obtain ⟨c, h1, h2, e⟩ := h
  rw [e]; exact nI_ne0 h1 (by omega)
theorem z_le (h : mZ t) : ¬ t 72 16 ≤ 0 := by
  obtain ⟨c, h1, h2, e⟩ := h
  rw [e]; exact nI_nle h1 (by omega)
theorem z_isWord (h : mZ t) {w : Nat} {ws : List Nat} (hw : wOk w ws) : f_X12_isWord w t = some 0 := by
  rw [fe_X12_isWord]; unfold fb_X12_isWord
  rw [if_neg (z_ne h), m_isWord0 hw]
theorem z_wrong (h : mZ t) (k : Int32) : v_X12_wrong k t = t := by
  rw [ve_X12_wrong]; unfold vb_X12_wrong
  rw [if_neg (z_le h)]
theorem z_goOn (h : mZ t) : f_X12_goOn t = some t := by
  rw [fe_X12_goOn]; unfold fb_X12_goOn
  rw [if_neg (z_ne h)]
theorem z_see (h : mZ t) (a b : Int32) : f_X12_see a b t = some (a, t) := by
  rw [fe_X12_see]; unfold fb_X12_see
  rw [if_neg (z_le h)]
theorem z_number (h : mZ t) (a b : Int32) : f_X12_number a b t = some (a, t) := by
  rw [fe_X12_number]; unfold fb_X12_number
  rw [z_see h, Option.bind_some]
  dsimp only
  rw [z_goOn h, Option.bind_some]
theorem z_must (h : mZ t) {w : Nat} {ws : List Nat} (hw : wOk w ws) : f_X12_must w t = some t := by
  rw [fe_X12_must]; unfold fb_X12_must
  rw [z_isWord h hw, Option.bind_some, if_pos rfl, z_wrong h]
  dsimp only
  rw [z_goOn h, Option.bind_some]
theorem z_opens (h : mZ t) {a : Nat} (ha : a < 235) (b : Int32) : f_X12_opensThing (nI a) b t = some (0, t) := by
  rw [fe_X12_opensThing]; unfold fb_X12_opensThing
  rw [if_neg (nI_in ha (by omega)), z_wrong h]
  dsimp only
  rw [z_goOn h, Option.bind_some, if_neg (z_ne h)]
  split <;> rfl
end D44
