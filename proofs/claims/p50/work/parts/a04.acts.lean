section D34
/-! ===== the changes themselves ===== -/
variable {N : Nat → Nat} {Q P : Nat → Nat → Int32} {s : ga_M}
/-- a loop over any state -/
theorem d_sb {α β : Type} {F : Nat → Nat → β → Option α} {I : Nat → β → Prop} {M : Nat} {G : β → Option α}
    (hs : ∀ n k s, k < M → I k s → ∃ s2, F (n + 1) k s = F n (k + 1) s2 ∧ I (k + 1) s2) (he : ∀ n s, I M s → F (n + 1) M s = G s) :
    ∀ m k n s, k + m = M → m < n → I k s → ∃ s2, F n k s = G s2 ∧ I M s2 := by
  intro m
  induction m with
  | zero =>
    intro k n s hk hn h
    obtain ⟨n, rfl⟩ : ∃ j, n = j + 1 := ⟨n - 1, by omega⟩
    have : k = M := by omega
    subst this
    exact ⟨s, he n s h, h⟩
  | succ m ih =>
    intro k n s hk hn h
    obtain ⟨n, rfl⟩ : ∃ j, n = j + 1 := ⟨n - 1, by omega⟩
    obtain ⟨s2, h1, h2⟩ := hs n k s (by omega) h
    obtain ⟨s3, h3, h4⟩ := ih (k + 1) n s2 (by omega) (by omega) h2
    exact ⟨s3, by rw [h1, h3], h4⟩
def dFp (s s1 : ga_M) : Prop := ∀ c, c ≤ 20 ∨ 41 ≤ c → s1 c = s c
def dFq (s s1 : ga_M) : Prop := (∀ c, c ≠ 72 → c ≠ 75 → c ≠ 78 → c ≠ 79 → s1 c = s c) ∧ ∀ f, f ≠ 9 → f ≠ 10 → s1 72 f = s 72 f
theorem dFp_refl (s : ga_M) : dFp s s := fun _ _ => rfl
theorem dFp_trans {s s1 s2 : ga_M} (h : dFp s s1) (h2 : dFp s1 s2) : dFp s s2 := fun c hc => (h2 c hc).trans (h c hc)
theorem dFp_up (s : ga_M) {a : Nat} (k : Nat) (v : Int32) (h1 : 20 < a) (h2 : a < 41) : dFp s (ga_up s a k v) := fun c hc => d_up_ne (by omega)
theorem dFq_refl (s : ga_M) : dFq s s := ⟨fun _ _ _ _ _ => rfl, fun _ _ _ => rfl⟩
theorem dFq_trans {s s1 s2 : ga_M} (h : dFq s s1) (h2 : dFq s1 s2) : dFq s s2 := ⟨fun c a b d e => (h2.1 c a b d e).trans (h.1 c a b d e), fun f a b => (h2.2 f a b).trans (h.2 f a b)⟩
theorem dFq_up (s : ga_M) (k : Nat) (v : Int32) : dFq s (ga_up s 75 k v) := ⟨fun c _ a _ _ => d_up_ne a, fun f _ _ => by rw [d_up_ne (by decide)]⟩
theorem dFq_gFr {s s1 : ga_M} (h : gFr 0 s s1) : dFq s s1 := ⟨fun c a _ b d => h.1 c a b d, h.2.1⟩
/-- an act of the class: answers v, makes P2 out of P; an act of the reference -/
def dAc (N : Nat → Nat) (Q P P2 : Nat → Nat → Int32) (fc : ga_M → Option (Int32 × ga_M)) (v : Int32) : Prop := ∀ s, dC N Q P s → ∃ s1, fc s = some (v, s1) ∧ dFp s s1 ∧ dC N Q P2 s1
def dAm (N : Nat → Nat) (Q P P2 : Nat → Nat → Int32) (fm : ga_M → Option ga_M) : Prop := ∀ s, dM N Q P s → ∃ s1, fm s = some s1 ∧ dFq s s1 ∧ dM N Q P2 s1
theorem c_letCover (hW : dW N Q P) {l t : Nat} (hl : l < N 6) (ht : t < N 3) : dAc N Q P (if aCover N Q P l t = 0 then pT P l (nI t) 0 else P) (f_X2_letCover (nI l) (nI t)) (aB (decide (aCover N Q P l t = 0))) := by
  intro s h
  have hB := dWN_b hW.1
  rw [fe_X2_letCover]; unfold fb_X2_letCover
  rw [dc_againstCover hW h hl ht, Option.bind_some]
  by_cases c : aCover N Q P l t = 0
  · rw [if_pos c, if_pos c, decide_eq_true c, ve_X3_letTeach]
    unfold vb_X3_letTeach
    dsimp only
    rw [d_pt (show l < 40 by omega) (by omega), d_pt (show l < 40 by omega) (by omega)]
    exact ⟨_, rfl, dFp_trans (dFp_up _ _ _ (by omega) (by omega)) (dFp_up _ _ _ (by omega) (by omega)), dC_pT (by omega) h⟩
  · rw [if_neg c, if_neg c, decide_eq_false c]
    exact ⟨s, rfl, dFp_refl s, h⟩
theorem c_letSupervise (hW : dW N Q P) {l t : Nat} (hl : l < N 6) (ht : t < N 3) : dAc N Q P (if aSuper N P l t = 0 then pT P l (nI t) 1 else P) (f_X2_letSupervise (nI l) (nI t)) (aB (decide (aSuper N P l t = 0))) := by
  intro s h
  have hB := dWN_b hW.1
  rw [fe_X2_letSupervise]; unfold fb_X2_letSupervise
  rw [dc_againstSupervision hW h hl ht, Option.bind_some]
  by_cases c : aSuper N P l t = 0
  · rw [if_pos c, if_pos c, decide_eq_true c, ve_X3_letWatch]
    unfold vb_X3_letWatch
    dsimp only
    rw [d_pt (show l < 40 by omega) (by omega), d_pt (show l < 40 by omega) (by omega)]
    exact ⟨_, rfl, dFp_trans (dFp_up _ _ _ (by omega) (by omega)) (dFp_up _ _ _ (by omega) (by omega)), dC_pT (by omega) h⟩
  · rw [if_neg c, if_neg c, decide_eq_false c]
    exact ⟨s, rfl, dFp_refl s, h⟩
def pW (P : Nat → Nat → Int32) (l o : Nat) : Nat → Nat → Int32 := pS (pS P 0 l (P 0 o)) 0 o (P 0 l)
theorem c_swapSlots (hW : dW N Q P) {l o : Nat} (hl : l < N 6) (ho : o < N 6) : dAc N Q P (if aExch N Q P l o = 0 then pW P l o else P) (f_X2_swapSlots (nI l) (nI o)) (aB (decide (aExch N Q P l o = 0))) := by
  intro s h
  have hB := dWN_b hW.1
  rw [fe_X2_swapSlots]; unfold fb_X2_swapSlots
  rw [dc_againstExchange hW h hl ho, Option.bind_some]
  by_cases c : aExch N Q P l o = 0
  · rw [if_pos c, if_pos c, decide_eq_true c]
    dsimp only
    rw [d_at (show l < 40 by omega) (by omega), d_at (show o < 40 by omega) (by omega), d_pt (show l < 40 by omega) (by omega), d_pt (show o < 40 by omega) (by omega), dc22 h hl, dc22 h ho]
    exact ⟨_, rfl, dFp_trans (dFp_up _ _ _ (by omega) (by omega)) (dFp_up _ _ _ (by omega) (by omega)), dC_pS (i := 0) (by omega) _ (dC_pS (i := 0) (by omega) _ h)⟩
  · rw [if_neg c, if_neg c, decide_eq_false c]
    exact ⟨s, rfl, dFp_refl s, h⟩
theorem c_moveToSlot (hW : dW N Q P) {l x : Nat} (hl : l < N 6) (hx : x < dSl N) : dAc N Q P (if aMove N Q P l (nI x) = 0 then pS P 0 l (nI x) else P) (f_X2_moveToSlot (nI l) (nI x)) (aB (decide (aMove N Q P l (nI x) = 0))) := by
  intro s h
  have hB := dWN_b hW.1
  rw [fe_X2_moveToSlot]; unfold fb_X2_moveToSlot
  rw [dc_againstMove hW h hl hx, Option.bind_some]
  by_cases c : aMove N Q P l (nI x) = 0
  · rw [if_pos c, if_pos c, decide_eq_true c]
    dsimp only
    rw [d_pt (show l < 40 by omega) (by omega)]
    exact ⟨_, rfl, dFp_up _ _ _ (by omega) (by omega), dC_pS (i := 0) (by omega) _ h⟩
  · rw [if_neg c, if_neg c, decide_eq_false c]
    exact ⟨s, rfl, dFp_refl s, h⟩
theorem c_moveToRoom (hW : dW N Q P) {l r : Nat} (hl : l < N 6) (hr : r < N 4) : dAc N Q P (if aRoom N Q P l r = 0 then pS P 2 l (nI r) else P) (f_X2_moveToRoom (nI l) (nI r)) (aB (decide (aRoom N Q P l r = 0))) := by
  intro s h
  have hB := dWN_b hW.1
  rw [fe_X2_moveToRoom]; unfold fb_X2_moveToRoom
  rw [dc_againstRoom hW h hl hr, Option.bind_some]
  by_cases c : aRoom N Q P l r = 0
  · rw [if_pos c, if_pos c, decide_eq_true c]
    dsimp only
    rw [d_pt (show l < 40 by omega) (by omega)]
    exact ⟨_, rfl, dFp_up _ _ _ (by omega) (by omega), dC_pS (i := 2) (by omega) _ h⟩
  · rw [if_neg c, if_neg c, decide_eq_false c]
    exact ⟨s, rfl, dFp_refl s, h⟩
theorem dc_makeOpen (h : dC N Q P s) {l : Nat} (hl : l < 40) : v_X3_makeOpen (nI l) s = ga_up (ga_up s 24 l (-1)) 28 l 0 := by
  rw [ve_X3_makeOpen]; unfold vb_X3_makeOpen
  dsimp only
  rw [d_pt (show l < 40 by omega) (by omega), d_pt (show l < 40 by omega) (by omega)]
theorem c_openAgain (hW : dW N Q P) {l : Nat} (hl : l < N 6) : dAc N Q P (if P 1 l = -1 then P else pT P l (-1) 0) (fun s => some (v_X2_openAgain (nI l) s)) (aB (!decide (P 1 l = -1))) := by
  intro s h
  have hB := dWN_b hW.1
  rw [ve_X2_openAgain]; unfold vb_X2_openAgain
  dsimp only
  rw [dc_isOpen hW.1 h hl, dc_makeOpen h (show l < 40 by omega)]
  by_cases c : P 1 l = -1
  · rw [if_pos c, decide_eq_true c, if_neg (by decide)]
    exact ⟨s, rfl, dFp_refl s, h⟩
  · rw [if_neg c, decide_eq_false c, if_pos (by decide)]
    exact ⟨_, rfl, dFp_trans (dFp_up _ _ _ (by omega) (by omega)) (dFp_up _ _ _ (by omega) (by omega)), dC_pT (by omega) h⟩
theorem m_slot (hW : dW N Q P) {l : Nat} (hl : l < N 6) (x : Int32) (h : dM N Q P s) : dM N Q (pS P 0 l x) (ga_up s 75 l x) := by
  have hB := dWN_b hW.1
  have := dM_pS (i := 0) (k := l) (by omega) (by omega) (by omega) x h
  rw [Nat.mul_zero, Nat.zero_add] at this
  exact this
/-! absences -/
def pO (P : Nat → Nat → Int32) (c : Nat → Bool) : Nat → Nat → Int32 := fun a k => if a = 1 ∧ c k = true then -1 else if a = 3 ∧ c k = true then 0 else P a k
theorem pO_no (P : Nat → Nat → Int32) {c : Nat → Bool} (h : ∀ k, c k = false) : pO P c = P := by
  funext a k; unfold pO; rw [h k]; simp
theorem pO_step (P : Nat → Nat → Int32) (c : Nat → Bool) (k : Nat) : pO P (fun j => decide (j < k + 1) && c j) = if c k = true then pT (pO P (fun j => decide (j < k) && c j)) k (-1) 0 else pO P (fun j => decide (j < k) && c j) := by
  split
  · rename_i hc
    funext a j
    unfold pT pS pO
    by_cases e : j = k
    · subst e
      have : (decide (j < j + 1) && c j) = true := by rw [hc]; simp
      simp only [this, and_true]
      by_cases a1 : a = 1
      · subst a1; simp
      · by_cases a3 : a = 3
        · subst a3; simp
        · simp [a1, a3]
    · have : decide (j < k + 1) = decide (j < k) := by
        by_cases h : j < k
        · rw [decide_eq_true h, decide_eq_true (by omega)]
        · rw [decide_eq_false h, decide_eq_false (by omega)]
      simp [e, this]
  · rename_i hc
    congr 1
    funext j
    by_cases e : j = k
    · subst e; simp [hc]
    · have : decide (j < k + 1) = decide (j < k) := by
        by_cases h : j < k
        · rw [decide_eq_true h, decide_eq_true (by omega)]
        · rw [decide_eq_false h, decide_eq_false (by omega)]
      rw [this]
theorem pO_0 (P : Nat → Nat → Int32) (c : Nat → Bool) (k : Nat) : pO P c 0 k = P 0 k := by unfold pO; simp
theorem pO_2 (P : Nat → Nat → Int32) (c : Nat → Bool) (k : Nat) : pO P c 2 k = P 2 k := by unfold pO; simp
theorem dWP_pO (h : dWP N P) (c : Nat → Bool) : dWP N (pO P c) := by
  obtain ⟨h0, h1, h2, h3, h4, h5⟩ := h
  have e1 : ∀ k, pO P c 1 k = if c k = true then -1 else P 1 k := fun k => by unfold pO; simp
  have e3 : ∀ k, pO P c 3 k = if c k = true then 0 else P 3 k := fun k => by unfold pO; simp
  refine ⟨fun k hk => by rw [pO_0]; exact h0 k hk, fun k hk => ?_, fun k hk => by rw [pO_2]; exact h2 k hk, fun k hk => ?_, fun i k hi hk hik e hn => ?_, fun i k hi hk hik e => ?_⟩
  · rw [e1]
    split
    · exact Or.inl rfl
    · exact h1 k hk
  · rw [e1, e3]
    cases c k
    · exact h3 k hk
    · exact Or.inl rfl
  · rw [pO_0, pO_0] at e
    rw [e1] at hn
    rw [e1, e1]
    by_cases c1 : c i = true
    · rw [if_pos c1] at hn; exact absurd rfl hn
    · rw [if_neg c1] at hn
      rw [if_neg c1]
      by_cases c2 : c k = true
      · rw [if_pos c2]; exact hn
      · rw [if_neg c2]; exact h4 i k hi hk hik e hn
  · rw [pO_0, pO_0] at e
    rw [pO_2, pO_2]
    exact h5 i k hi hk hik e
def aAb (N : Nat → Nat) (P : Nat → Nat → Int32) (t d : Nat) (k : Nat) : Bool := decide (P 1 k = nI t) && decide (aDay N (P 0 k) = nI d)
def pA (N : Nat → Nat) (P : Nat → Nat → Int32) (t d : Nat) (is : Bool) : Nat → Nat → Int32 :=
  if is = true then pO (pS P 4 t (P 4 t ||| (1 <<< (nI d &&& 31)))) (fun j => decide (j < N 6) && aAb N P t d j) else pS P 4 t (P 4 t &&& ((1 <<< (nI d &&& 31)) ^^^ (-1)))
def aAbs (N : Nat → Nat) (P : Nat → Nat → Int32) (t d : Nat) (is : Bool) : Int32 := if is = true then dCt (aAb N P t d) (N 6) else 0
theorem dWP_pA (h : dWP N P) (t d : Nat) (is : Bool) : dWP N (pA N P t d is) := by
  unfold pA
  cases is
  · exact dWP_abs h _ _
  · exact dWP_pO (dWP_abs h _ _) _
theorem dFo_succ (f : Nat → Int32 → Int32) : ∀ m k a, dFo f (m + 1) k a = f (k + m) (dFo f m k a) := by
  intro m
  induction m with
  | zero => intro k a; rfl
  | succ m ih =>
    intro k a
    show dFo f (m + 1) (k + 1) (f k a) = f (k + (m + 1)) (dFo f m (k + 1) (f k a))
    rw [ih (k + 1) (f k a), show k + 1 + m = k + (m + 1) by omega]
theorem c_letBeAbsent (hW : dW N Q P) {t d : Nat} (ht : t < N 3) (hd : d < N 0) (is : Bool) {b : Int32} (hb : is = decide (b ≠ 0)) : dAc N Q P (pA N P t d is) (f_X2_letBeAbsent (nI t) (nI d) b) (aAbs N P t d is) := by
  intro s h
  have hN := hW.1
  have hB := dWN_b hN
  rw [fe_X2_letBeAbsent]; unfold fb_X2_letBeAbsent
  dsimp only
  rw [d_at (show t < 8 by omega) (by omega), dc30 h (show t < 8 by omega), d_pt (show t < 8 by omega) (by omega), d_pt (show t < 8 by omega) (by omega)]
  unfold pA aAbs
  by_cases c : b = 0
  · have : is = false := by rw [hb]; simp [c]
    subst this
    rw [if_pos c, if_neg (by decide), if_neg (by decide)]
    exact ⟨_, rfl, dFp_up _ _ _ (by omega) (by omega), dC_pS (i := 4) (by omega) _ h⟩
  · have : is = true := by rw [hb]; simp [c]
    subst this
    rw [if_neg c, if_pos rfl, if_pos rfl]
    generalize P 4 t ||| (1 <<< (nI d &&& 31)) = v
    have h1 : dC N Q (pS P 4 t v) (ga_up s 30 t v) := dC_pS (i := 4) (by omega) v h
    obtain ⟨⟨a, s2⟩, e1, e2, e3, e4⟩ := d_sb (β := Int32 × ga_M) (F := fun n k x => f_X2_letBeAbsent_h61 n (nI t) (nI d) x.1 (nI k) x.2) (M := N 6) (G := fun x => some x)
      (I := fun k x => x.1 = dFo (dCf (aAb N P t d)) k 0 0 ∧ dFp s x.2 ∧ dC N Q (pO (pS P 4 t v) (fun j => decide (j < k) && aAb N P t d j)) x.2)
      (fun n k x hk hI => by
        obtain ⟨i1, i2, i3⟩ := hI
        have f0 : ∀ j, pO (pS P 4 t v) (fun j => decide (j < k) && aAb N P t d j) 0 j = P 0 j := fun j => by rw [pO_0]; exact pS_ne (by omega)
        have f1 : pO (pS P 4 t v) (fun j => decide (j < k) && aAb N P t d j) 1 k = P 1 k := by
          unfold pO; simp; exact pS_ne (by omega)
        have ef := dFo_succ (dCf (aAb N P t d)) k 0 0
        rw [Nat.zero_add] at ef
        by_cases c1 : aAb N P t d k = true
        · have c2 := c1
          unfold aAb at c2
          rw [Bool.and_eq_true, decide_eq_true_eq, decide_eq_true_eq] at c2
          refine ⟨(x.1 + 1, ga_up (ga_up x.2 24 k (-1)) 28 k 0), ?_, ?_, dFp_trans i2 (dFp_trans (dFp_up _ _ _ (by omega) (by omega)) (dFp_up _ _ _ (by omega) (by omega))), ?_⟩
          · show f_X2_letBeAbsent_h61 (n + 1) _ _ _ _ _ = _
            rw [f_X2_letBeAbsent_h61]
            dsimp only
            rw [dcN i3 (by decide), if_neg (nI_ge hk (by omega)), d_at (show k < 40 by omega) (by omega), dc24 i3 hk, f1, if_pos c2.1, d_at (show k < 40 by omega) (by omega), dc22 i3 hk, f0, dc_dayOf hN i3, Option.bind_some, if_pos c2.2, dc_makeOpen i3 (show k < 40 by omega), d_p1]
          · show x.1 + 1 = _
            rw [ef, i1]; exact (if_pos c1).symm
          · rw [pO_step, if_pos c1]
            exact dC_pT (by omega) i3
        · refine ⟨x, ?_, ?_, i2, ?_⟩
          · show f_X2_letBeAbsent_h61 (n + 1) _ _ _ _ _ = _
            rw [f_X2_letBeAbsent_h61]
            dsimp only
            rw [dcN i3 (by decide), if_neg (nI_ge hk (by omega)), d_at (show k < 40 by omega) (by omega), dc24 i3 hk, f1, d_at (show k < 40 by omega) (by omega), dc22 i3 hk, f0, dc_dayOf hN i3, Option.bind_some, d_p1]
            unfold aAb at c1
            rw [Bool.and_eq_true, decide_eq_true_eq, decide_eq_true_eq] at c1
            by_cases c2 : P 1 k = nI t
            · rw [if_pos c2, if_neg (fun e => c1 ⟨c2, e⟩)]
            · rw [if_neg c2]
          · rw [ef, i1]; exact (if_neg c1).symm
          · rw [pO_step, if_neg c1]; exact i3)
      (fun n x hI => by
        show f_X2_letBeAbsent_h61 (n + 1) _ _ _ _ _ = _
        rw [f_X2_letBeAbsent_h61, dcN hI.2.2 (by decide), if_pos (nI_le (Nat.le_refl _) (by omega))])
      (N 6) 0 ga_fuel (0, ga_up s 30 t v) (by omega) (d_fuel (by omega)) ⟨rfl, dFp_up _ _ _ (by omega) (by omega), by rw [pO_no]; exact h1; intro k; simp⟩
    refine ⟨s2, ?_, e3, e4⟩
    show f_X2_letBeAbsent_h61 ga_fuel (nI t) (nI d) 0 (nI 0) _ = _
    rw [e1, show dCt (aAb N P t d) (N 6) = a from e2.symm]
end D34
