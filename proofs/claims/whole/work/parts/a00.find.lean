section D30
variable {N : Nat → Nat} {Q P : Nat → Nat → Int32} {s : ga_M}
def gB (s : ga_M) (c : List Nat) : Prop := ∀ j, j < c.length → s 79 j = nI (c.getD j 0)
theorem dm_find (hW : dW N Q P) (h : dM N Q P s) {l : Nat} (hl : l < N 6) : ∃ s2 c, f_X12_findChain (nI l) s = some (nI c.length, s2) ∧ gFr 0 s s2 ∧ s2 72 9 = nI c.length ∧ gB s2 c ∧
    (P 1 l ≠ -1 → c = []) ∧ (P 1 l = -1 → gBestP (N 3) (gE N Q P (P 0 l)) (gF N Q P (P 0 l)) (gLd N Q P) (gC N Q P (P 0 l) l) c) := by
  have hN := hW.1
  have hB := dWN_b hN
  obtain ⟨x, hx, ex⟩ := hW.2.2.1 l hl
  have g0 : gLev N Q P 0 f_X12_goes0 := dm_goes0 hW (dm_goes1 hW (dm_goes2 hW (dm_goes3 hW)))
  rw [fe_X12_findChain]; unfold fb_X12_findChain
  dsimp only
  generalize es : ga_up s 72 9 0 = s1
  have hf1 : gFr 0 s s1 := by
    rw [← es]
    exact ⟨fun a a1 _ _ => d_up_ne a1, fun f f1 _ => d_up_nk (fun q => f1 q.2), fun j hj => by omega⟩
  have hM1 := gFr_dM hf1 h
  have h9 : s1 72 9 = 0 := by rw [← es, d_up_eq]
  rw [dm_isOpen hN hM1 hl, Option.bind_some]
  by_cases c1 : P 1 l = -1
  · have e0 : ¬ aB (decide (P 1 l = -1)) = 0 := by rw [decide_eq_true c1]; decide
    rw [if_neg e0]
    have key : ∀ m k n (s0 : ga_M), k + m = 5 → m < n → 1 ≤ k → gFr 0 s s0 → s0 72 9 = 0 → (∀ c, gW (N 3) (gE N Q P (nI x)) (gF N Q P (nI x)) (gC N Q P (nI x) l) c → c.Nodup → c.length < k → False) →
        ∃ s2 c, f_X12_findChain_h17 n (nI l) (nI k) s0 = some (nI c.length, s2) ∧ gFr 0 s s2 ∧ s2 72 9 = nI c.length ∧ gB s2 c ∧ gBestP (N 3) (gE N Q P (nI x)) (gF N Q P (nI x)) (gLd N Q P) (gC N Q P (nI x) l) c := by
      intro m
      induction m with
      | zero =>
        intro k n s0 hk hn h1 hf h9 hno
        obtain ⟨n, rfl⟩ : ∃ j, n = j + 1 := ⟨n - 1, by omega⟩
        have : k = 5 := by omega
        subst this
        unfold f_X12_findChain_h17
        rw [if_pos (by decide), h9]
        exact ⟨s0, [], rfl, hf, h9, fun j hj => by simp at hj, Or.inl ⟨rfl, fun c h1 h2 h3 => hno c h1 h2 (by omega)⟩⟩
      | succ m ih =>
        intro k n s0 hk hn h1 hf h9 hno
        obtain ⟨n, rfl⟩ : ∃ j, n = j + 2 := ⟨n - 2, by omega⟩
        have hM0 := gFr_dM hf h
        unfold f_X12_findChain_h17
        dsimp only
        rw [if_neg (show ¬ (4 : Int32) < nI k from nI_nlt (a := 4) (by omega) (by omega)), if_pos h9, d_a0, if_neg (nI_in (c := l) (N := 168) (by omega) (by omega)), d_cl (show l < 2147483648 by omega), dm0 hM0 hl, ex]
        obtain ⟨s2, b, e1, e2, e3, e4⟩ := g0 l x k [] s0 none hM0 hl hx rfl (by omega) (by omega) (fun j hj => by simp at hj) h9
        rw [show f_X12_goes0 (nI l) (nI x) 0 (nI k) s0 = some s2 from e1, Option.bind_some, d_r1]
        have hf2 := gFr_trans hf e2 (Nat.le_refl _)
        rcases e4 with ⟨rfl, e4⟩ | ⟨c, ⟨c', hc', hv⟩, _, rfl, e5⟩
        · refine ih (k + 1) (n + 1) s2 (by omega) (by omega) (by omega) hf2 e3 (fun c k1 k2 k3 => ?_)
          by_cases e : c.length = k
          · exact e4 c ⟨c, rfl, k1, k2, fun u _ hu => (by cases hu), by simpa using e⟩ trivial
          · exact hno c k1 k2 (by omega)
        · have : c = c' := hc'
          subst this
          obtain ⟨v1, v2, _, v4⟩ := hv
          have hlen : c.length = k := by simpa using v4
          have hfin : f_X12_findChain_h17 (n + 1) (nI l) (nI (k + 1)) s2 = some (nI c.length, s2) := by
            unfold f_X12_findChain_h17
            rw [e3.1, hlen, if_neg (nI_ne0 (by omega) (by omega))]
            split <;> rfl
          refine ⟨s2, c, hfin, hf2, by rw [hlen]; exact e3.1, fun j hj => e3.2.2.2 j (by omega), Or.inr ⟨by omega, by omega, ⟨⟨v1, v2, rfl⟩, fun y hy => ?_⟩, fun y k1 k2 k3 => hno y k1 k2 (by omega)⟩⟩
          exact e5 y ⟨y, rfl, hy.1, hy.2.1, fun u _ hu => (by cases hu), by simp [hy.2.2, hlen]⟩
    obtain ⟨s2, c, k1, k2, k3, k4, k5⟩ := key 4 1 ga_fuel s1 (by omega) (d_fuel (by omega)) (by omega) hf1 h9 (fun c k1 _ k3 => by
      have : c = [] := List.length_eq_zero_iff.mp (by omega)
      subst this
      exact k1)
    exact ⟨s2, c, k1, k2, k3, k4, fun e => absurd c1 e, fun _ => by rw [ex]; exact k5⟩
  · have e0 : aB (decide (P 1 l = -1)) = 0 := by rw [decide_eq_false c1]; rfl
    rw [if_pos e0]
    exact ⟨s1, [], rfl, hf1, h9, fun j hj => by simp at hj, fun _ => rfl, fun e => absurd e c1⟩
/-- the chain of a lesson -/
def gCh (N : Nat → Nat) (Q P : Nat → Nat → Int32) (l : Nat) (c : List Nat) : Prop := (P 1 l ≠ -1 → c = []) ∧ (P 1 l = -1 → gBest (N 3) (gE N Q P (P 0 l)) (gF N Q P (P 0 l)) (gLd N Q P) (gC N Q P (P 0 l) l) c)
theorem gCh_same {l : Nat} {c c' : List Nat} (h : gCh N Q P l c) (h1 : P 1 l ≠ -1 → c' = []) (h2 : P 1 l = -1 → gBestP (N 3) (gE N Q P (P 0 l)) (gF N Q P (P 0 l)) (gLd N Q P) (gC N Q P (P 0 l) l) c') : c = c' := by
  by_cases e : P 1 l = -1
  · exact gBest_same (h.2 e) (h2 e)
  · rw [h.1 e, h1 e]
theorem gCh_uniq {l : Nat} {c c' : List Nat} (h : gCh N Q P l c) (h' : gCh N Q P l c') : c = c' := by
  by_cases e : P 1 l = -1
  · rcases h.2 e with ⟨rfl, h1⟩ | ⟨h1, h2, h3, h4⟩
    · rcases h'.2 e with ⟨rfl, _⟩ | ⟨k1, k2, k3, _⟩
      · rfl
      · exact (h1 c' k3.1.1 k2).elim
    · rcases h'.2 e with ⟨rfl, k1⟩ | ⟨k1, k2, k3, k4⟩
      · exact (k1 c h3.1.1 h2).elim
      · have e1 := h4 c' k3.1.1
        have e2 := k4 c h3.1.1
        have e : c'.length = c.length := by omega
        rw [e] at k3
        exact gO_uniq (L := c.length) (S := fun x => gW (N 3) (gE N Q P (P 0 l)) (gF N Q P (P 0 l)) (gC N Q P (P 0 l) l) x ∧ x.length = c.length) (fun x hx => hx.2) h3 k3
  · rw [h.1 e, h'.1 e]
/-- the chain, both ways -/
theorem d_find_both (hW : dW N Q P) {l : Nat} (hl : l < N 6) : ∃ c, gCh N Q P l c ∧ c.length ≤ 4 ∧ (∀ s, dC N Q P s → ∃ s2, f_X0_find (nI l) s = some (nI c.length, s2) ∧ (∀ a, a ≠ 32 → a ≠ 34 → a ≠ 36 → a ≠ 38 → a ≠ 40 → s2 a = s a) ∧ s2 32 6 = nI c.length ∧ gM s2 c) ∧
    ∀ s, dM N Q P s → ∃ s2, f_X12_findChain (nI l) s = some (nI c.length, s2) ∧ gFr 0 s s2 ∧ s2 72 9 = nI c.length ∧ gB s2 c := by
  have hN := hW.1
  have hB := dWN_b hN
  by_cases hex : ∃ s, dC N Q P s
  · obtain ⟨s0, hs0⟩ := hex
    obtain ⟨_, c, _, _, _, _, h5, h6⟩ := dc_find hW hs0 hl
    have hc : gCh N Q P l c := ⟨h5, h6⟩
    refine ⟨c, hc, ?_, fun s hs => ?_, fun s hs => ?_⟩
    · by_cases e : P 1 l = -1
      · rcases h6 e with ⟨rfl, _⟩ | ⟨_, h2, _⟩
        · simp
        · exact h2
      · rw [h5 e]; simp
    · obtain ⟨s2, c', k1, k2, k3, k4, k5, k6⟩ := dc_find hW hs hl
      have := gCh_uniq hc ⟨k5, k6⟩
      subst this
      exact ⟨s2, k1, k2, k3, k4⟩
    · obtain ⟨s2, c', k1, k2, k3, k4, k5, k6⟩ := dm_find hW hs hl
      have := gCh_same hc k5 k6
      subst this
      exact ⟨s2, k1, k2, k3, k4⟩
  · exfalso
    refine hex ⟨fun a k => if a = 1 then nI (N k) else if a = 3 then Q 1 k else if a = 5 then Q 2 k else if a = 7 then Q 3 k else if a = 9 then Q 4 k else if a = 11 then Q 5 k else if a = 13 then Q 6 k else if a = 15 then Q 7 k else if a = 17 then Q 8 k else if a = 19 then Q 9 k else if a = 22 then P 0 k else if a = 24 then P 1 k else if a = 26 then P 2 k else if a = 28 then P 3 k else P 4 k, ?_⟩
    unfold dC dCS dCP
    simp
end D30
