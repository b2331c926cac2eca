section D32
variable {N : Nat → Nat} {Q P : Nat → Nat → Int32} {s : ga_M}
theorem dC_plan {P0 : Nat → Nat → Int32} {s2 : ga_M} (h : dC N Q P s) (e : ∀ c, c ≤ 19 → s2 c = s c) (hp : dCP N P0 s2) : dC N Q P0 s2 := by
  refine ⟨?_, hp⟩
  have h1 := h.1
  unfold dCS at *
  simp only [e _ (show 1 ≤ 19 by omega), e _ (show 1 + 2 ≤ 19 by omega), e _ (show 1 + 4 ≤ 19 by omega), e _ (show 1 + 6 ≤ 19 by omega), e _ (show 1 + 8 ≤ 19 by omega), e _ (show 1 + 10 ≤ 19 by omega), e _ (show 1 + 12 ≤ 19 by omega), e _ (show 1 + 14 ≤ 19 by omega), e _ (show 1 + 16 ≤ 19 by omega), e _ (show 1 + 18 ≤ 19 by omega)]
  exact h1
def dPf (s s2 : ga_M) : Prop := ∀ c, c ≠ 22 → c ≠ 24 → c ≠ 26 → c ≠ 28 → c ≠ 30 → s2 c = s c
theorem dc_restore (hN6 : N 6 ≤ 40) {m : Nat} {H : Nat → Nat → Nat → Int32} {P0 : Nat → Nat → Int32} (h : dCHm N m H P0 s) : ∃ s2, f_X1_restoreMarked s = some s2 ∧ dPf s s2 ∧ dCP N P0 s2 := by
  obtain ⟨o, hr, hp⟩ := h
  have ho := hr.2.1
  have hm := hr.1
  have hq : (o + m) % 11 < 11 := Nat.mod_lt _ (by omega)
  rw [fe_X1_restoreMarked]; unfold fb_X1_restoreMarked
  rw [hr.2.2.2.1, dc_baseOf hr.2.2.1 (by omega), Option.bind_some]
  generalize hbq : (o + m) % 11 = q at hq hp ⊢
  obtain ⟨s1, e1, i1, i2⟩ := d_sl (F := fun n k s => f_X1_restoreMarked_h11 n (nI (q * 168)) (nI k) s) (M := 40) (G := fun s => f_X1_restoreMarked_h123 ga_fuel (nI (q * 168)) 0 s)
    (I := fun k t => dPf s t ∧ (∀ j, j < k → t 22 j = s 44 (q * 168 + 4 * j) ∧ t 24 j = s 44 (q * 168 + 4 * j + 1) ∧ t 26 j = s 44 (q * 168 + 4 * j + 2) ∧ t 28 j = s 44 (q * 168 + 4 * j + 3)))
    (fun n k t hk hI => by
      obtain ⟨h1, h2⟩ := hI
      refine ⟨ga_up (ga_up (ga_up (ga_up t 22 k (s 44 (q * 168 + 4 * k))) 24 k (s 44 (q * 168 + 4 * k + 1))) 26 k (s 44 (q * 168 + 4 * k + 2))) 28 k (s 44 (q * 168 + 4 * k + 3)), ?_, fun c c1 c2 c3 c4 c5 => by rw [d_up_ne c4, d_up_ne c3, d_up_ne c2, d_up_ne c1, h1 c c1 c2 c3 c4 c5], fun j hj => ?_⟩
      · show f_X1_restoreMarked_h11 (n + 1) _ _ _ = _
        rw [f_X1_restoreMarked_h11]
        dsimp only
        rw [if_neg (show ¬ (40 : Int32) ≤ nI k from nI_ge (b := 40) hk (by omega)), d_m4, nI_add, d_p1, d_p2, d_p3, d_p1]
        simp (disch := omega) only [d_at, d_pt, d_up_ne, ne_eq, reduceCtorEq, not_false_eq_true]
        rw [h1 44 (by decide) (by decide) (by decide) (by decide) (by decide)]
      · by_cases e : j = k
        · subst e
          refine ⟨?_, ?_, ?_, ?_⟩
          · rw [d_up_nk (by omega), d_up_nk (by omega), d_up_nk (by omega), d_up_eq]
          · rw [d_up_nk (by omega), d_up_nk (by omega), d_up_eq]
          · rw [d_up_nk (by omega), d_up_eq]
          · rw [d_up_eq]
        · have h4 := h2 j (by omega)
          refine ⟨?_, ?_, ?_, ?_⟩
          · rw [d_up_nk (by omega), d_up_nk (by omega), d_up_nk (by omega), d_up_nk (by omega)]; exact h4.1
          · rw [d_up_nk (by omega), d_up_nk (by omega), d_up_nk (by omega), d_up_nk (by omega)]; exact h4.2.1
          · rw [d_up_nk (by omega), d_up_nk (by omega), d_up_nk (by omega), d_up_nk (by omega)]; exact h4.2.2.1
          · rw [d_up_nk (by omega), d_up_nk (by omega), d_up_nk (by omega), d_up_nk (by omega)]; exact h4.2.2.2)
    (fun n t _ => by
      show f_X1_restoreMarked_h11 (n + 1) _ _ _ = _
      rw [f_X1_restoreMarked_h11]
      rw [if_pos (by decide)]) 40 0 ga_fuel s (by omega) (d_fuel (by omega)) ⟨fun _ _ _ _ _ _ => rfl, fun j hj => by omega⟩
  rw [show f_X1_restoreMarked_h11 ga_fuel (nI (q * 168)) 0 s = _ from e1]
  obtain ⟨s2, e2, j1, j2⟩ := d_sl (F := fun n k s => f_X1_restoreMarked_h123 n (nI (q * 168)) (nI k) s) (M := 8) (G := some)
    (I := fun k t => (∀ c, c ≠ 30 → t c = s1 c) ∧ (∀ j, j < k → t 30 j = s 44 (q * 168 + 160 + j)))
    (fun n k t hk hI => by
      obtain ⟨h1, h2⟩ := hI
      refine ⟨ga_up t 30 k (s 44 (q * 168 + 160 + k)), ?_, fun c hc => by rw [d_up_ne hc, h1 c hc], fun j hj => ?_⟩
      · show f_X1_restoreMarked_h123 (n + 1) _ _ _ = _
        rw [f_X1_restoreMarked_h123]
        dsimp only
        rw [if_neg (show ¬ (8 : Int32) ≤ nI k from nI_ge (b := 8) hk (by omega)), d_p160, nI_add, d_p1]
        simp (disch := omega) only [d_at, d_pt]
        rw [h1 44 (by decide), i1 44 (by decide) (by decide) (by decide) (by decide) (by decide)]
      · by_cases e : j = k
        · subst e; rw [d_up_eq]
        · rw [d_up_nk (by omega)]; exact h2 j (by omega))
    (fun n t _ => by
      show f_X1_restoreMarked_h123 (n + 1) _ _ _ = _
      rw [f_X1_restoreMarked_h123]
      rw [if_pos (by decide)]) 8 0 ga_fuel s1 (by omega) (d_fuel (by omega)) ⟨fun _ _ => rfl, fun j hj => by omega⟩
  refine ⟨s2, e2, fun c c1 c2 c3 c4 c5 => by rw [j1 c c5, i1 c c1 c2 c3 c4 c5], ⟨fun k hk => ?_, fun k hk => ?_, fun k hk => ?_, fun k hk => ?_, fun k hk => ?_⟩⟩
  · rw [j1 22 (by decide), (i2 k (by omega)).1]; exact (hp.1 k hk).1
  · rw [j1 24 (by decide), (i2 k (by omega)).2.1]; exact (hp.1 k hk).2.1
  · rw [j1 26 (by decide), (i2 k (by omega)).2.2.1]; exact (hp.1 k hk).2.2.1
  · rw [j1 28 (by decide), (i2 k (by omega)).2.2.2]; exact (hp.1 k hk).2.2.2
  · rw [j2 k hk]; exact hp.2 k hk
/-! the reference's -/
theorem dMl_cong {p : Nat → Nat → Int32} {s2 : ga_M} {a b : Nat} (hN6 : N 6 ≤ 40) {a2 b2 : Nat} (e : ∀ i, i < 168 → s2 a2 (b2 + i) = s a (b + i)) (h : dMl N p s a b) : dMl N p s2 a2 b2 := by
  refine ⟨fun k hk => ?_, fun k hk => by rw [e _ (by omega)]; exact h.2 k hk⟩
  rw [e _ (by omega), e _ (by omega), e _ (by omega), e _ (by omega)]
  exact h.1 k hk
theorem dMP_l : dMP N P s ↔ dMl N P s 75 0 := by
  unfold dMP dMl
  simp only [Nat.zero_add]
  constructor
  · rintro ⟨h0, h1, h2, h3, h4⟩; exact ⟨fun k hk => ⟨h0 k hk, h1 k hk, h2 k hk, h3 k hk⟩, h4⟩
  · rintro ⟨h0, h4⟩; exact ⟨fun k hk => (h0 k hk).1, fun k hk => (h0 k hk).2.1, fun k hk => (h0 k hk).2.2.1, fun k hk => (h0 k hk).2.2.2, h4⟩
theorem d_ltf {k n : Nat} (h : k < n) (hn : n < 2147483648) : (nI k < 0 ∨ n ≤ (nI k).toNatClampNeg) = False := d_ix h hn
end D32
