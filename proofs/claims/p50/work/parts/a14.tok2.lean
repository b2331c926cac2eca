section D44
/-! ===== tokens: the reference; words, numbers ===== -/
variable {T : Nat → Nat} {L : Nat} {s t : ga_M}
def tF (s s2 : ga_M) : Prop := ∀ c, c ≠ 45 → s2 c = s c
def mF (s s2 : ga_M) : Prop := (∀ c, c ≠ 72 → s2 c = s c) ∧ ∀ f, f ≠ 13 → f ≠ 14 → f ≠ 16 → f ≠ 17 → s2 72 f = s 72 f
theorem tF_refl (s : ga_M) : tF s s := fun _ _ => rfl
theorem tF_trans {s s1 s2 : ga_M} (h : tF s s1) (h2 : tF s1 s2) : tF s s2 := fun c hc => (h2 c hc).trans (h c hc)
theorem mF_refl (s : ga_M) : mF s s := ⟨fun _ _ => rfl, fun _ _ _ _ _ => rfl⟩
theorem mF_trans {s s1 s2 : ga_M} (h : mF s s1) (h2 : mF s1 s2) : mF s s2 := ⟨fun c hc => (h2.1 c hc).trans (h.1 c hc), fun f a b c d => (h2.2 f a b c d).trans (h.2 f a b c d)⟩
theorem mX_up {f : Nat} {v : Int32} (h : mX T L t) (hf : f ≠ 15) : mX T L (ga_up t 72 f v) := ⟨by rw [d_up_nk (by omega)]; exact h.1, by rw [d_up_ne (by decide)]; exact h.2⟩
/-! words -/
def tW (T : Nat → Nat) (L st : Nat) (ws : List Nat) : Bool := decide (tE T L st - st = ws.length) && decide (∀ i, i < ws.length → tB T L (st + i) = ws.getD i 0)
def wOk (w : Nat) (ws : List Nat) : Prop := ga_tx w = some ws ∧ 0 < ws.length ∧ ws.length < 20 ∧ ∀ i, i < ws.length → ws.getD i 0 < 256
theorem w_sl {w : Nat} {ws : List Nat} (hw : wOk w ws) : ga_sl w s = some (nI ws.length) := by unfold ga_sl; rw [hw.1]; rfl
theorem w_sc {w : Nat} {ws : List Nat} (hw : wOk w ws) {i : Nat} (hi : i < ws.length) : ga_sc w (nI i) s = some (nI (ws.getD i 0)) := by
  have := hw.2.2.1
  unfold ga_sc
  rw [hw.1, Option.bind_some, if_neg (nI_in hi (by omega)), d_cl (show i < 2147483648 by omega)]; rfl
theorem d_ball {n i : Nat} {p : Nat → Prop} (hi : i < n) : (∀ j, i ≤ j → j < n → p j) ↔ (p i ∧ ∀ j, i + 1 ≤ j → j < n → p j) := by
  constructor
  · intro h; exact ⟨h i (Nat.le_refl _) hi, fun j h1 h2 => h j (by omega) h2⟩
  · rintro ⟨h1, h2⟩ j h3 h4
    by_cases e : j = i
    · rw [e]; exact h1
    · exact h2 j (by omega) h4
theorem c_isWord_l (hT : tOk T L) {st : Nat} (h : cK T L st s) {w : Nat} {ws : List Nat} (hw : wOk w ws) (hlen : tE T L st - st = ws.length) : ∀ r i n, i + r = ws.length → r < n → ((∀ j, i ≤ j → j < ws.length → tB T L (st + j) = ws.getD j 0) ∧ f_X10_isWord_h28 n w (nI i) s = some 1) ∨ ((¬ ∀ j, i ≤ j → j < ws.length → tB T L (st + j) = ws.getD j 0) ∧ f_X10_isWord_h28 n w (nI i) s = some 0) := by
  have hL := hT.1
  have hE := tE_le (T := T) hL h.2.1
  have hw20 := hw.2.2.1
  intro r
  induction r with
  | zero =>
    intro i n hi hn
    obtain ⟨n, rfl⟩ : ∃ k, n = k + 1 := ⟨n - 1, by omega⟩
    left
    refine ⟨fun j h1 h2 => by omega, ?_⟩
    rw [f_X10_isWord_h28, w_sl hw, Option.bind_some, if_pos (nI_le (by omega) (by omega))]
  | succ r ih =>
    intro i n hi hn
    obtain ⟨n, rfl⟩ : ∃ k, n = k + 1 := ⟨n - 1, by omega⟩
    have hi2 : i < ws.length := by omega
    have hlt : st + i < L := by omega
    have h256 := hT.2 (st + i) hlt
    have hc := hw.2.2.2 i hi2
    rw [f_X10_isWord_h28]
    dsimp only
    rw [w_sl hw, Option.bind_some, if_neg (nI_ge hi2 (by omega)), w_sc hw hi2, Option.bind_some, h.2.2.2.1, nI_add, d_at (show st + i < 900 by omega) (by omega), h.1.2 _ hlt, d_p1, d_ball hi2, tB_lt hlt]
    by_cases c : T (st + i) = ws.getD i 0
    · rw [if_pos (by rw [c])]
      rcases ih (i + 1) n (by omega) (by omega) with ⟨a1, a2⟩ | ⟨a1, a2⟩
      · exact Or.inl ⟨⟨c, a1⟩, a2⟩
      · exact Or.inr ⟨fun q => a1 q.2, a2⟩
    · rw [if_neg (fun e => c ((nI_eq (by omega) (by omega)).mp e))]
      exact Or.inr ⟨fun q => c q.1, rfl⟩
theorem tK_lt (T : Nat → Nat) (L st : Nat) : tK T L st < 5 := by
  unfold tK
  repeat' split
  all_goals omega
theorem c_isWord (hT : tOk T L) {st : Nat} (h : cK T L st s) {w : Nat} {ws : List Nat} (hw : wOk w ws) (hlet : tLe (ws.getD 0 0) = true) : f_X10_isWord w s = some (aB (tW T L st ws)) := by
  have hL := hT.1
  have hE := tE_le (T := T) hL h.2.1
  have hw20 := hw.2.2.1
  have hw0 := hw.2.1
  rw [fe_X10_isWord]; unfold fb_X10_isWord tW
  rw [h.2.2.1, h.2.2.2.2.1, h.2.2.2.1, w_sl hw, Option.bind_some, pk_sub hE.1]
  have hball : (∀ i, i < ws.length → tB T L (st + i) = ws.getD i 0) ↔ ∀ j, 0 ≤ j → j < ws.length → tB T L (st + j) = ws.getD j 0 := ⟨fun q j _ h2 => q j h2, fun q j h2 => q j (by omega) h2⟩
  by_cases c1 : tK T L st = 1
  · rw [c1, if_pos (show nI 1 = 1 from rfl)]
    by_cases c2 : tE T L st - st = ws.length
    · rw [if_pos (by rw [c2]), decide_eq_true c2, Bool.true_and]
      rcases c_isWord_l hT h hw c2 ws.length 0 ga_fuel (by omega) (by have := d_fuel (n := 20) (by omega); omega) with ⟨a1, a2⟩ | ⟨a1, a2⟩
      · rw [decide_eq_true (hball.mpr a1)]; exact a2
      · rw [decide_eq_false (fun q => a1 (hball.mp q))]; exact a2
    · rw [if_neg (fun e => c2 ((nI_eq (by omega) (by omega)).mp e)), decide_eq_false c2]; rfl
  · have h5 := tK_lt T L st
    rw [if_neg (show ¬ nI (tK T L st) = 1 from fun e => c1 ((nI_eq (b := 1) (by omega) (by omega)).mp e))]
    have : ¬ ∀ i, i < ws.length → tB T L (st + i) = ws.getD i 0 := fun q => by
      have q0 := q 0 hw0
      rw [Nat.add_zero] at q0
      have hlt : st < L := by
        by_cases z : st < L
        · exact z
        · rw [tB_ge (by omega)] at q0
          have := hw.2.2.2 0 hw0
          omega
      refine c1 ?_
      unfold tK
      rw [if_neg (show ¬ L ≤ st by omega), q0, hlet, if_pos rfl]
    rw [decide_eq_false this, Bool.and_false]; rfl
def mZ (t : ga_M) : Prop := ∃ c, 0 < c ∧ c < 10 ∧ t 72 16 = nI c
theorem z_ne (h : mZ t) : ¬ t 72 16 = 0 := by
  obtain ⟨c, h1, h2, e⟩ := h
  rw [e]; exact nI_ne0 h1 (by omega)
theorem z_le (h : mZ t) : ¬ t 72 16 ≤ 0 := by
  obtain ⟨c, h1, h2, e⟩ := h
  rw [e]; exact nI_nle h1 (by omega)
end D44
