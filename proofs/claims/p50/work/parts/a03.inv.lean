section D33
/-! ===== the whole relation of both ===== -/
variable {N : Nat → Nat} {Q P : Nat → Nat → Int32} {s : ga_M}
def dTx (s : ga_M) : Prop := ∃ L, L ≤ 900 ∧ s 45 1 = nI L ∧ s 72 12 = nI L ∧ ∀ i, i < L → ∃ b, b < 256 ∧ s 47 i = nI b ∧ s 80 i &&& 255 = nI b
def dEr (s : ga_M) : Prop := s 45 6 = s 72 16 ∧ s 45 7 = s 72 17
def dRe (s : ga_M) : Prop := ∃ m, m ≤ 150 ∧ s 69 3 = nI m ∧ s 72 19 = nI m ∧ ∀ i, i < m → s 71 i = s 81 i
def dWH (N : Nat → Nat) (m : Nat) (H : Nat → Nat → Nat → Int32) : Prop := ∀ p, p < m → dWP N (H p)
def dI (N : Nat → Nat) (Q P : Nat → Nat → Int32) (m : Nat) (H : Nat → Nat → Nat → Int32) (s : ga_M) : Prop :=
  dW N Q P ∧ dWH N m H ∧ dC N Q P s ∧ dM N Q P s ∧ dCH N m H s ∧ dMH N m H s ∧ dTx s ∧ dEr s ∧ dRe s
def dIs (s : ga_M) : Prop := ∃ N Q P m H, dI N Q P m H s
def dFc (s s1 : ga_M) : Prop := ∀ c, 45 ≤ c → s1 c = s c
def dFm (s s2 : ga_M) : Prop := (∀ c, c ≤ 71 → s2 c = s c) ∧ s2 80 = s 80 ∧ s2 81 = s 81 ∧ s2 82 = s 82 ∧ s2 72 12 = s 72 12 ∧ s2 72 16 = s 72 16 ∧ s2 72 17 = s 72 17 ∧ s2 72 19 = s 72 19
theorem dFc_refl (s : ga_M) : dFc s s := fun _ _ => rfl
theorem dFc_trans {s s1 s2 : ga_M} (h : dFc s s1) (h2 : dFc s1 s2) : dFc s s2 := fun c hc => (h2 c hc).trans (h c hc)
theorem dFm_refl (s : ga_M) : dFm s s := ⟨fun _ _ => rfl, rfl, rfl, rfl, rfl, rfl, rfl, rfl⟩
theorem dFm_trans {s s1 s2 : ga_M} (h : dFm s s1) (h2 : dFm s1 s2) : dFm s s2 :=
  ⟨fun c hc => (h2.1 c hc).trans (h.1 c hc), h2.2.1.trans h.2.1, h2.2.2.1.trans h.2.2.1, h2.2.2.2.1.trans h.2.2.2.1, h2.2.2.2.2.1.trans h.2.2.2.2.1, h2.2.2.2.2.2.1.trans h.2.2.2.2.2.1, h2.2.2.2.2.2.2.1.trans h.2.2.2.2.2.2.1, h2.2.2.2.2.2.2.2.trans h.2.2.2.2.2.2.2⟩
theorem dFm_726 (s : ga_M) (x : Int32) : dFm s (ga_up s 72 6 x) :=
  ⟨fun c hc => d_up_ne (by omega), d_up_ne (by decide), d_up_ne (by decide), d_up_ne (by decide), d_up_nk (by decide), d_up_nk (by decide), d_up_nk (by decide), d_up_nk (by decide)⟩
theorem dTx_cong {s2 : ga_M} (e1 : s2 45 1 = s 45 1) (e2 : s2 47 = s 47) (e3 : s2 72 12 = s 72 12) (e4 : s2 80 = s 80) (h : dTx s) : dTx s2 := by
  unfold dTx at *; rw [e1, e2, e3, e4]; exact h
theorem dRe_cong {s2 : ga_M} (e1 : s2 69 3 = s 69 3) (e2 : s2 71 = s 71) (e3 : s2 72 19 = s 72 19) (e4 : s2 81 = s 81) (h : dRe s) : dRe s2 := by
  unfold dRe at *; rw [e1, e2, e3, e4]; exact h
theorem dCH_cong {m : Nat} {H : Nat → Nat → Nat → Int32} {s2 : ga_M} (e1 : s2 42 = s 42) (e2 : s2 44 = s 44) (h : dCH N m H s) : dCH N m H s2 := by
  obtain ⟨o, h⟩ := h
  exact ⟨o, dRing_cong e1 e2 h⟩
/-- the result cell -/
theorem dI_82 {m : Nat} {H : Nat → Nat → Nat → Int32} (h : dI N Q P m H s) (x : Int32) : dI N Q P m H (ga_up s 82 0 x) := by
  obtain ⟨h1, h2, h3, h4, h5, h6, h7, h8, h9⟩ := h
  have e : ∀ c, c ≠ 82 → ga_up s 82 0 x c = s c := fun c hc => d_up_ne hc
  exact ⟨h1, h2, dC_lt (fun c hc => e c (by omega)) h3, dM_cong (e _ (by decide)) (e _ (by decide)) h4, dCH_cong (e _ (by decide)) (e _ (by decide)) h5, dMH_cong (by rw [e _ (by decide)]) (e _ (by decide)) h6,
    dTx_cong (by rw [e _ (by decide)]) (e _ (by decide)) (by rw [e _ (by decide)]) (e _ (by decide)) h7, by unfold dEr at *; rw [e _ (by decide), e _ (by decide)]; exact h8, dRe_cong (by rw [e _ (by decide)]) (e _ (by decide)) (by rw [e _ (by decide)]) (e _ (by decide)) h9⟩
/-- the class's part, then the reference's -/
theorem dI_join {P2 : Nat → Nat → Int32} {m m2 : Nat} {H H2 : Nat → Nat → Nat → Int32} {s1 s2 : ga_M} (h : dI N Q P m H s) (hW : dW N Q P2) (hH : dWH N m2 H2) (f1 : dFc s s1) (c1 : dC N Q P2 s1) (c2 : dCH N m2 H2 s1) (f2 : dFm s1 s2) (m1 : dM N Q P2 s2) (m2' : dMH N m2 H2 s2) : dI N Q P2 m2 H2 s2 := by
  obtain ⟨_, _, _, _, _, _, h7, h8, h9⟩ := h
  have e1 : ∀ c, c ≤ 71 → s2 c = s1 c := f2.1
  refine ⟨hW, hH, dC_lt (fun c hc => e1 c (by omega)) c1, m1, dCH_cong (e1 42 (by omega)) (e1 44 (by omega)) c2, m2', dTx_cong ?_ ?_ ?_ ?_ h7, ?_, dRe_cong ?_ ?_ ?_ ?_ h9⟩
  · rw [e1 45 (by omega), f1 45 (by omega)]
  · rw [e1 47 (by omega), f1 47 (by omega)]
  · rw [f2.2.2.2.2.1, f1 72 (by omega)]
  · rw [f2.2.1, f1 80 (by omega)]
  · unfold dEr at *
    rw [e1 45 (by omega), f1 45 (by omega), f2.2.2.2.2.2.1, f2.2.2.2.2.2.2.1, f1 72 (by omega)]
    exact h8
  · rw [e1 69 (by omega), f1 69 (by omega)]
  · rw [e1 71 (by omega), f1 71 (by omega)]
  · rw [f2.2.2.2.2.2.2.2, f1 72 (by omega)]
  · rw [f2.2.2.1, f1 81 (by omega)]
/-- a plan with one number changed -/
def pS (P : Nat → Nat → Int32) (i k : Nat) (v : Int32) : Nat → Nat → Int32 := fun a b => if a = i ∧ b = k then v else P a b
theorem pS_eq (P : Nat → Nat → Int32) (i k : Nat) (v : Int32) : pS P i k v i k = v := if_pos ⟨rfl, rfl⟩
theorem pS_ne {P : Nat → Nat → Int32} {i k a b : Nat} {v : Int32} (h : ¬ (a = i ∧ b = k)) : pS P i k v a b = P a b := if_neg h
theorem dC_pS {i k : Nat} (hi : i ≤ 4) (v : Int32) (h : dC N Q P s) : dC N Q (pS P i k v) (ga_up s (22 + 2 * i) k v) := by
  refine dC_plan h (fun c hc => d_up_ne (by omega)) ?_
  obtain ⟨_, h0, h1, h2, h3, h4⟩ := h
  have key : ∀ a j, a ≤ 4 → s (22 + 2 * a) j = P a j → ga_up s (22 + 2 * i) k v (22 + 2 * a) j = pS P i k v a j := by
    intro a j ha e
    rw [d_up_at]
    by_cases c : a = i ∧ j = k
    · rw [if_pos (by omega), c.1, c.2, pS_eq]
    · rw [if_neg (by omega), pS_ne c, e]
  exact ⟨fun j hj => key 0 j (by omega) (h0 j hj), fun j hj => key 1 j (by omega) (h1 j hj), fun j hj => key 2 j (by omega) (h2 j hj), fun j hj => key 3 j (by omega) (h3 j hj), fun j hj => key 4 j (by omega) (h4 j hj)⟩
theorem dM_pS {i k : Nat} (hi : i ≤ 4) (hN6 : N 6 ≤ 40) (hk : k < 40) (v : Int32) (h : dM N Q P s) : dM N Q (pS P i k v) (ga_up s 75 (40 * i + k) v) := by
  have hs : dMS 73 N Q (ga_up s 75 (40 * i + k) v) := by
    have h1 := h.1
    unfold dMS at *
    rw [d_up_ne (show 73 ≠ 75 by decide)]; exact h1
  refine ⟨hs, ?_⟩
  obtain ⟨_, h0, h1, h2, h3, h4⟩ := h
  have key : ∀ a j, a ≤ 4 → j < 40 → s 75 (40 * a + j) = P a j → ga_up s 75 (40 * i + k) v 75 (40 * a + j) = pS P i k v a j := by
    intro a j ha hj e
    rw [d_up_at]
    by_cases c : a = i ∧ j = k
    · rw [if_pos (by omega), c.1, c.2, pS_eq]
    · rw [if_neg (by omega), pS_ne c, e]
  refine ⟨fun j hj => ?_, fun j hj => key 1 j (by omega) (by omega) (h1 j hj), fun j hj => key 2 j (by omega) (by omega) (h2 j hj), fun j hj => key 3 j (by omega) (by omega) (h3 j hj), fun j hj => key 4 j (by omega) (by omega) (h4 j hj)⟩
  have := key 0 j (by omega) (by omega) (by rw [Nat.mul_zero, Nat.zero_add]; exact h0 j hj)
  rw [Nat.mul_zero, Nat.zero_add] at this
  exact this
def pT (P : Nat → Nat → Int32) (l : Nat) (t w : Int32) : Nat → Nat → Int32 := pS (pS P 1 l t) 3 l w
theorem pT_1 (P : Nat → Nat → Int32) (l k : Nat) (t w : Int32) : pT P l t w 1 k = if k = l then t else P 1 k := by
  unfold pT; rw [pS_ne (by omega)]; unfold pS; simp
theorem pT_3 (P : Nat → Nat → Int32) (l k : Nat) (t w : Int32) : pT P l t w 3 k = if k = l then w else P 3 k := by
  unfold pT pS; simp
theorem pT_o {P : Nat → Nat → Int32} {l a : Nat} {t w : Int32} (h1 : a ≠ 1) (h3 : a ≠ 3) (k : Nat) : pT P l t w a k = P a k := by
  unfold pT; rw [pS_ne (by omega), pS_ne (by omega)]
theorem dC_pT {l : Nat} (hl : l < 40) {t w : Int32} (h : dC N Q P s) : dC N Q (pT P l t w) (ga_up (ga_up s 24 l t) 28 l w) := dC_pS (i := 3) (by omega) w (dC_pS (i := 1) (by omega) t h)
theorem dM_pT {l : Nat} (hl : l < 40) (hN6 : N 6 ≤ 40) {t w : Int32} (h : dM N Q P s) : dM N Q (pT P l t w) (ga_up (ga_up s 75 (40 + l) t) 75 (120 + l) w) := dM_pS (i := 3) (by omega) hN6 hl w (dM_pS (i := 1) (by omega) hN6 hl t h)
/-! changes keep a plan a plan -/
theorem dWP_open (h : dWP N P) (l : Nat) : dWP N (pT P l (-1) 0) := by
  obtain ⟨h0, h1, h2, h3, h4, h5⟩ := h
  refine ⟨fun k hk => by rw [pT_o (by omega) (by omega)]; exact h0 k hk, fun k hk => ?_, fun k hk => by rw [pT_o (by omega) (by omega)]; exact h2 k hk, fun k hk => ?_, fun i k hi hk hik e hn => ?_, fun i k hi hk hik e => ?_⟩
  · rw [pT_1]
    split
    · exact Or.inl rfl
    · exact h1 k hk
  · rw [pT_1, pT_3]
    by_cases e : k = l
    · rw [if_pos e]; exact Or.inl rfl
    · rw [if_neg e, if_neg e]; exact h3 k hk
  · rw [pT_o (by omega) (by omega), pT_o (by omega) (by omega)] at e
    rw [pT_1] at hn
    rw [pT_1, pT_1]
    by_cases c1 : i = l
    · rw [if_pos c1] at hn; exact absurd rfl hn
    · rw [if_neg c1] at hn
      rw [if_neg c1]
      by_cases c2 : k = l
      · rw [if_pos c2]; exact hn
      · rw [if_neg c2]; exact h4 i k hi hk hik e hn
  · rw [pT_o (by omega) (by omega), pT_o (by omega) (by omega)] at e ⊢
    exact h5 i k hi hk hik e
/-- a free teacher gets a lesson -/
theorem dWP_teach (hN : dWN N) (h : dWP N P) {l t : Nat} {w : Int32} (ht : t < N 3) (hw : w = 0 ∨ w = 1) (hf : ∀ k, k < N 6 → k ≠ l → P 0 k = P 0 l → P 1 k ≠ nI t) : dWP N (pT P l (nI t) w) := by
  have hB := dWN_b hN
  have hn : nI t ≠ -1 := d_ne1 (by omega)
  obtain ⟨h0, h1, h2, h3, h4, h5⟩ := h
  refine ⟨fun k hk => by rw [pT_o (by omega) (by omega)]; exact h0 k hk, fun k hk => ?_, fun k hk => by rw [pT_o (by omega) (by omega)]; exact h2 k hk, fun k hk => ?_, fun i k hi hk hik e hni => ?_, fun i k hi hk hik e => ?_⟩
  · rw [pT_1]
    split
    · exact Or.inr ⟨t, ht, rfl⟩
    · exact h1 k hk
  · rw [pT_1, pT_3]
    by_cases e : k = l
    · rw [if_pos e, if_pos e]
      rcases hw with rfl | rfl
      · exact Or.inl rfl
      · exact Or.inr ⟨rfl, hn⟩
    · rw [if_neg e, if_neg e]; exact h3 k hk
  · rw [pT_o (by omega) (by omega), pT_o (by omega) (by omega)] at e
    rw [pT_1] at hni
    rw [pT_1, pT_1]
    by_cases c1 : i = l
    · subst c1
      rw [if_pos rfl, if_neg (fun q => hik q.symm)]
      exact fun q => hf k hk (fun q => hik q.symm) e.symm q.symm
    · rw [if_neg c1] at hni
      rw [if_neg c1]
      by_cases c2 : k = l
      · subst c2; rw [if_pos rfl]; exact hf i hi c1 e
      · rw [if_neg c2]; exact h4 i k hi hk hik e hni
  · rw [pT_o (by omega) (by omega), pT_o (by omega) (by omega)] at e ⊢
    exact h5 i k hi hk hik e
theorem aAt_none (hN : dWN N) {i : Nat} {x v : Int32} (h : aAt N P i x v = -1) : ∀ k, k < N 6 → P 0 k = x → P i k ≠ v := by
  have hB := dWN_b hN
  intro k hk e1 e2
  unfold aAt at h
  rw [dFind_none (by omega)] at h
  have := h k hk
  simp [e1, e2] at this
theorem dWP_slot (h : dWP N P) {l x : Nat} (hx : x < dSl N) (ht : P 1 l ≠ -1 → ∀ k, k < N 6 → k ≠ l → P 0 k = nI x → P 1 k ≠ P 1 l) (hr : ∀ k, k < N 6 → k ≠ l → P 0 k = nI x → P 2 k ≠ P 2 l) : dWP N (pS P 0 l (nI x)) := by
  obtain ⟨h0, h1, h2, h3, h4, h5⟩ := h
  have e1 : ∀ k, pS P 0 l (nI x) 1 k = P 1 k := fun k => pS_ne (by omega)
  have e2 : ∀ k, pS P 0 l (nI x) 2 k = P 2 k := fun k => pS_ne (by omega)
  have e3 : ∀ k, pS P 0 l (nI x) 3 k = P 3 k := fun k => pS_ne (by omega)
  have e0 : ∀ k, pS P 0 l (nI x) 0 k = if k = l then nI x else P 0 k := fun k => by unfold pS; simp
  refine ⟨fun k hk => ?_, fun k hk => by rw [e1]; exact h1 k hk, fun k hk => by rw [e2]; exact h2 k hk, fun k hk => by rw [e3, e1]; exact h3 k hk, fun i k hi hk hik e hn => ?_, fun i k hi hk hik e => ?_⟩
  · rw [e0]
    split
    · exact ⟨x, hx, rfl⟩
    · exact h0 k hk
  · rw [e1] at hn
    rw [e1, e1]
    rw [e0, e0] at e
    by_cases c1 : i = l
    · subst c1
      rw [if_pos rfl, if_neg (fun q => hik q.symm)] at e
      exact fun q => ht hn k hk (fun q => hik q.symm) e.symm q.symm
    · rw [if_neg c1] at e
      by_cases c2 : k = l
      · subst c2; rw [if_pos rfl] at e
        intro q
        exact ht (by rw [← q]; exact hn) i hi c1 e q
      · rw [if_neg c2] at e; exact h4 i k hi hk hik e hn
  · rw [e2, e2]
    rw [e0, e0] at e
    by_cases c1 : i = l
    · subst c1
      rw [if_pos rfl, if_neg (fun q => hik q.symm)] at e
      exact fun q => hr k hk (fun q => hik q.symm) e.symm q.symm
    · rw [if_neg c1] at e
      by_cases c2 : k = l
      · subst c2; rw [if_pos rfl] at e; exact hr i hi c1 e
      · rw [if_neg c2] at e; exact h5 i k hi hk hik e
theorem dWP_room (h : dWP N P) {l r : Nat} (hr : r < N 4) (hf : ∀ k, k < N 6 → k ≠ l → P 0 k = P 0 l → P 2 k ≠ nI r) : dWP N (pS P 2 l (nI r)) := by
  obtain ⟨h0, h1, h2, h3, h4, h5⟩ := h
  have e0 : ∀ k, pS P 2 l (nI r) 0 k = P 0 k := fun k => pS_ne (by omega)
  have e1 : ∀ k, pS P 2 l (nI r) 1 k = P 1 k := fun k => pS_ne (by omega)
  have e3 : ∀ k, pS P 2 l (nI r) 3 k = P 3 k := fun k => pS_ne (by omega)
  have e2 : ∀ k, pS P 2 l (nI r) 2 k = if k = l then nI r else P 2 k := fun k => by unfold pS; simp
  refine ⟨fun k hk => by rw [e0]; exact h0 k hk, fun k hk => by rw [e1]; exact h1 k hk, fun k hk => ?_, fun k hk => by rw [e3, e1]; exact h3 k hk, fun i k hi hk hik e hn => ?_, fun i k hi hk hik e => ?_⟩
  · rw [e2]
    split
    · exact ⟨r, hr, rfl⟩
    · exact h2 k hk
  · rw [e1] at hn
    rw [e1, e1]
    rw [e0, e0] at e
    exact h4 i k hi hk hik e hn
  · rw [e0, e0] at e
    rw [e2, e2]
    by_cases c1 : i = l
    · subst c1
      rw [if_pos rfl, if_neg (fun q => hik q.symm)]
      exact fun q => hf k hk (fun q => hik q.symm) e.symm q.symm
    · rw [if_neg c1]
      by_cases c2 : k = l
      · subst c2; rw [if_pos rfl]; exact hf i hi c1 e
      · rw [if_neg c2]; exact h5 i k hi hk hik e
theorem dWP_abs (h : dWP N P) (t : Nat) (v : Int32) : dWP N (pS P 4 t v) := by
  obtain ⟨h0, h1, h2, h3, h4, h5⟩ := h
  have e0 : ∀ k, pS P 4 t v 0 k = P 0 k := fun k => pS_ne (by omega)
  have e1 : ∀ k, pS P 4 t v 1 k = P 1 k := fun k => pS_ne (by omega)
  have e2 : ∀ k, pS P 4 t v 2 k = P 2 k := fun k => pS_ne (by omega)
  have e3 : ∀ k, pS P 4 t v 3 k = P 3 k := fun k => pS_ne (by omega)
  unfold dWP
  simp only [e0, e1, e2, e3]
  exact ⟨h0, h1, h2, h3, h4, h5⟩
end D33
