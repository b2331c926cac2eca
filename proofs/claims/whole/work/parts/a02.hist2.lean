section D32
variable {N : Nat → Nat} {Q P : Nat → Nat → Int32} {s : ga_M}
theorem dC_plan {P0 : Nat → Nat → Int32} {s2 : ga_M} (h : dC N Q P s) (e : ∀ c, c ≤ 19 → s2 c = s c) (hp : dCP N P0 s2) : dC N Q P0 s2 := by
  refine ⟨?_, hp⟩
  have h1 := h.1
  unfold dCS at *
  simp only [e _ (show 1 ≤ 19 by omega), e _ (show 1 + 2 ≤ 19 by omega), e _ (show 1 + 4 ≤ 19 by omega), e _ (show 1 + 6 ≤ 19 by omega), e _ (show 1 + 8 ≤ 19 by omega), e _ (show 1 + 10 ≤ 19 by omega), e _ (show 1 + 12 ≤ 19 by omega), e _ (show 1 + 14 ≤ 19 by omega), e _ (show 1 + 16 ≤ 19 by omega), e _ (show 1 + 18 ≤ 19 by omega)]
  exact h1
def dPf (s s2 : ga_M) : Prop := ∀ c, c ≠ 22 → c ≠ 24 → c ≠ 26 → c ≠ 28 → c ≠ 30 → s2 c = s c
theorem dc_restore (hN6 : N 6 ≤ 40) {m : Nat} {H : Nat → Nat → Nat → Int32} {P0 : Nat → Nat → Int32} (h : dCHm N m H P0 s) : ∃ s2, f_X1_restoreMarked s = some s2 ∧ dPf s s2 ∧ dCP N P0 s2 := by
  obtain ⟨o, hr, hp⟩ := h
  have ho := hr.2.1
  have hm := hr.1
  have hq : (o + m) % 11 < 11 := Nat.mod_lt _ (by omega)
  rw [fe_X1_restoreMarked]; unfold fb_X1_restoreMarked
  rw [hr.2.2.2.1, dc_baseOf hr.2.2.1 (by omega), Option.bind_some]
  generalize hbq : (o + m) % 11 = q at hq hp ⊢
  obtain ⟨s1, e1, i1, i2⟩ := d_sl (F := fun n k s => f_X1_restoreMarked_h11 n (nI (q * 168)) (nI k) s) (M := 40) (G := fun s => f_X1_restoreMarked_h123 ga_fuel (nI (q * 168)) 0 s)
    (I := fun k t => dPf s t ∧ (∀ j, j < k → t 22 j = s 44 (q * 168 + 4 * j) ∧ t 24 j = s 44 (q * 168 + 4 * j + 1) ∧ t 26 j = s 44 (q * 168 + 4 * j + 2) ∧ t 28 j = s 44 (q * 168 + 4 * j + 3)))
    (fun n k t hk hI => by
      obtain ⟨h1, h2⟩ := hI
      refine ⟨ga_up (ga_up (ga_up (ga_up t 22 k (s 44 (q * 168 + 4 * k))) 24 k (s 44 (q * 168 + 4 * k + 1))) 26 k (s 44 (q * 168 + 4 * k + 2))) 28 k (s 44 (q * 168 + 4 * k + 3)), ?_, fun c c1 c2 c3 c4 c5 => by rw [d_up_ne c4, d_up_ne c3, d_up_ne c2, d_up_ne c1, h1 c c1 c2 c3 c4 c5], fun j hj => ?_⟩
      · show f_X1_restoreMarked_h11 (n + 1) _ _ _ = _
        rw [f_X1_restoreMarked_h11]
        dsimp only
        rw [if_neg (show ¬ (40 : Int32) ≤ nI k from nI_ge (b := 40) hk (by omega)), d_m4, nI_add, d_p1, d_p2, d_p3, d_p1]
        simp (disch := omega) only [d_at, d_pt, d_up_ne, ne_eq, reduceCtorEq, not_false_eq_true]
        rw [h1 44 (by decide) (by decide) (by decide) (by decide) (by decide)]
      · by_cases e : j = k
        · subst e
          refine ⟨?_, ?_, ?_, ?_⟩
          · rw [d_up_nk (by omega), d_up_nk (by omega), d_up_nk (by omega), d_up_eq]
          · rw [d_up_nk (by omega), d_up_nk (by omega), d_up_eq]
          · rw [d_up_nk (by omega), d_up_eq]
          · rw [d_up_eq]
        · have h4 := h2 j (by omega)
          refine ⟨?_, ?_, ?_, ?_⟩
          · rw [d_up_nk (by omega), d_up_nk (by omega), d_up_nk (by omega), d_up_nk (by omega)]; exact h4.1
          · rw [d_up_nk (by omega), d_up_nk (by omega), d_up_nk (by omega), d_up_nk (by omega)]; exact h4.2.1
          · rw [d_up_nk (by omega), d_up_nk (by omega), d_up_nk (by omega), d_up_nk (by omega)]; exact h4.2.2.1
          · rw [d_up_nk (by omega), d_up_nk (by omega), d_up_nk (by omega), d_up_nk (by omega)]; exact h4.2.2.2)
    (fun n t _ => by
      show f_X1_restoreMarked_h11 (n + 1) _ _ _ = _
      rw [f_X1_restoreMarked_h11]
      rw [if_pos (by decide)]) 40 0 ga_fuel s (by omega) (d_fuel (by omega)) ⟨fun _ _ _ _ _ _ => rfl, fun j hj => by omega⟩
  rw [show f_X1_restoreMarked_h11 ga_fuel (nI (q * 168)) 0 s = _ from e1]
  obtain ⟨s2, e2, j1, j2⟩ := d_sl (F := fun n k s => f_X1_restoreMarked_h123 n (nI (q * 168)) (nI k) s) (M := 8) (G := some)
    (I := fun k t => (∀ c, c ≠ 30 → t c = s1 c) ∧ (∀ j, j < k → t 30 j = s 44 (q * 168 + 160 + j)))
    (fun n k t hk hI => by
      obtain ⟨h1, h2⟩ := hI
      refine ⟨ga_up t 30 k (s 44 (q * 168 + 160 + k)), ?_, fun c hc => by rw [d_up_ne hc, h1 c hc], fun j hj => ?_⟩
      · show f_X1_restoreMarked_h123 (n + 1) _ _ _ = _
        rw [f_X1_restoreMarked_h123]
        dsimp only
        rw [if_neg (show ¬ (8 : Int32) ≤ nI k from nI_ge (b := 8) hk (by omega)), d_p160, nI_add, d_p1]
        simp (disch := omega) only [d_at, d_pt]
        rw [h1 44 (by decide), i1 44 (by decide) (by decide) (by decide) (by decide) (by decide)]
      · by_cases e : j = k
        · subst e; rw [d_up_eq]
        · rw [d_up_nk (by omega)]; exact h2 j (by omega))
    (fun n t _ => by
      show f_X1_restoreMarked_h123 (n + 1) _ _ _ = _
      rw [f_X1_restoreMarked_h123]
      rw [if_pos (by decide)]) 8 0 ga_fuel s1 (by omega) (d_fuel (by omega)) ⟨fun _ _ => rfl, fun j hj => by omega⟩
  refine ⟨s2, e2, fun c c1 c2 c3 c4 c5 => by rw [j1 c c5, i1 c c1 c2 c3 c4 c5], ⟨fun k hk => ?_, fun k hk => ?_, fun k hk => ?_, fun k hk => ?_, fun k hk => ?_⟩⟩
  · rw [j1 22 (by decide), (i2 k (by omega)).1]; exact (hp.1 k hk).1
  · rw [j1 24 (by decide), (i2 k (by omega)).2.1]; exact (hp.1 k hk).2.1
  · rw [j1 26 (by decide), (i2 k (by omega)).2.2.1]; exact (hp.1 k hk).2.2.1
  · rw [j1 28 (by decide), (i2 k (by omega)).2.2.2]; exact (hp.1 k hk).2.2.2
  · rw [j2 k hk]; exact hp.2 k hk
/-! the reference's -/
theorem dMl_cong {p : Nat → Nat → Int32} {s2 : ga_M} {a b : Nat} (hN6 : N 6 ≤ 40) {a2 b2 : Nat} (e : ∀ i, i < 168 → s2 a2 (b2 + i) = s a (b + i)) (h : dMl N p s a b) : dMl N p s2 a2 b2 := by
  refine ⟨fun k hk => ?_, fun k hk => by rw [e _ (by omega)]; exact h.2 k hk⟩
  rw [e _ (by omega), e _ (by omega), e _ (by omega), e _ (by omega)]
  exact h.1 k hk
theorem dMP_l : dMP N P s ↔ dMl N P s 75 0 := by
  unfold dMP dMl
  simp only [Nat.zero_add]
  constructor
  · rintro ⟨h0, h1, h2, h3, h4⟩; exact ⟨fun k hk => ⟨h0 k hk, h1 k hk, h2 k hk, h3 k hk⟩, h4⟩
  · rintro ⟨h0, h4⟩; exact ⟨fun k hk => (h0 k hk).1, fun k hk => (h0 k hk).2.1, fun k hk => (h0 k hk).2.2.1, fun k hk => (h0 k hk).2.2.2, h4⟩
theorem d_ltf {k n : Nat} (h : k < n) (hn : n < 2147483648) : (nI k < 0 ∨ n ≤ (nI k).toNatClampNeg) = False := d_ix h hn
theorem dm_copy_to (s : ga_M) : ∃ s2, f_X12_copyRow_75_76 s = some s2 ∧ (∀ c, c ≠ 76 → s2 c = s c) ∧ ∀ j, j < 168 → s2 76 j = s 75 j := by
  rw [fe_X12_copyRow_75_76]; unfold fb_X12_copyRow_75_76
  exact d_sl (F := fun n k s => f_X12_copyRow_75_76_h2 n (nI k) s) (M := 168) (G := some)
    (I := fun k t => (∀ c, c ≠ 76 → t c = s c) ∧ ∀ j, j < k → t 76 j = s 75 j)
    (fun n k t hk hI => by
      obtain ⟨h1, h2⟩ := hI
      refine ⟨ga_up t 76 k (s 75 k), ?_, fun c hc => by rw [d_up_ne hc, h1 c hc], fun j hj => ?_⟩
      · show f_X12_copyRow_75_76_h2 (n + 1) _ _ = _
        rw [f_X12_copyRow_75_76_h2]
        dsimp only
        rw [if_neg (show ¬ (168 : Int32) ≤ nI k from nI_ge (b := 168) hk (by omega)), if_neg (nI_in hk (by omega)), if_neg (nI_in hk (by omega)), d_cl (show k < 2147483648 by omega), d_p1, h1 75 (by decide)]
      · by_cases e : j = k
        · subst e; rw [d_up_eq]
        · rw [d_up_nk (by omega)]; exact h2 j (by omega))
    (fun n t _ => by
      show f_X12_copyRow_75_76_h2 (n + 1) _ _ = _
      rw [f_X12_copyRow_75_76_h2]
      rw [if_pos (by decide)]) 168 0 ga_fuel s (by omega) (d_fuel (by omega)) ⟨fun _ _ => rfl, fun j hj => by omega⟩
theorem dm_copy_back (s : ga_M) : ∃ s2, f_X12_copyRow_76_75 s = some s2 ∧ (∀ c, c ≠ 75 → s2 c = s c) ∧ ∀ j, j < 168 → s2 75 j = s 76 j := by
  rw [fe_X12_copyRow_76_75]; unfold fb_X12_copyRow_76_75
  exact d_sl (F := fun n k s => f_X12_copyRow_76_75_h2 n (nI k) s) (M := 168) (G := some)
    (I := fun k t => (∀ c, c ≠ 75 → t c = s c) ∧ ∀ j, j < k → t 75 j = s 76 j)
    (fun n k t hk hI => by
      obtain ⟨h1, h2⟩ := hI
      refine ⟨ga_up t 75 k (s 76 k), ?_, fun c hc => by rw [d_up_ne hc, h1 c hc], fun j hj => ?_⟩
      · show f_X12_copyRow_76_75_h2 (n + 1) _ _ = _
        rw [f_X12_copyRow_76_75_h2]
        dsimp only
        rw [if_neg (show ¬ (168 : Int32) ≤ nI k from nI_ge (b := 168) hk (by omega)), if_neg (nI_in hk (by omega)), if_neg (nI_in hk (by omega)), d_cl (show k < 2147483648 by omega), d_p1, h1 76 (by decide)]
      · by_cases e : j = k
        · subst e; rw [d_up_eq]
        · rw [d_up_nk (by omega)]; exact h2 j (by omega))
    (fun n t _ => by
      show f_X12_copyRow_76_75_h2 (n + 1) _ _ = _
      rw [f_X12_copyRow_76_75_h2]
      rw [if_pos (by decide)]) 168 0 ga_fuel s (by omega) (d_fuel (by omega)) ⟨fun _ _ => rfl, fun j hj => by omega⟩
theorem dm_push54 {m : Nat} (hm : m < 10) (h5 : s 72 5 = nI m) : ∃ s2, f_X12_push_h54 ga_fuel 0 s = some s2 ∧ (∀ c, c ≠ 72 → c ≠ 77 → s2 c = s c) ∧ (∀ f, f ≠ 5 → s2 72 f = s 72 f) ∧ s2 72 5 = nI (m + 1) ∧ (∀ j, j < 168 → s2 77 (168 * m + j) = s 76 j) ∧ ∀ i, i < 168 * m → s2 77 i = s 77 i := by
  obtain ⟨s1, e1, i1, i2, i3⟩ := d_sl (F := fun n k s => f_X12_push_h54 n (nI k) s) (M := 168) (G := fun t => some (ga_up t 72 5 ((t 72 5) + 1)))
    (I := fun k t => (∀ c, c ≠ 77 → t c = s c) ∧ (∀ j, j < k → t 77 (168 * m + j) = s 76 j) ∧ ∀ i, i < 168 * m → t 77 i = s 77 i)
    (fun n k t hk hI => by
      obtain ⟨h1, h2, h3⟩ := hI
      refine ⟨ga_up t 77 (168 * m + k) (s 76 k), ?_, fun c hc => by rw [d_up_ne hc, h1 c hc], fun j hj => ?_, fun i hi => by rw [d_up_nk (by omega), h3 i hi]⟩
      · show f_X12_push_h54 (n + 1) _ _ = _
        rw [f_X12_push_h54]
        dsimp only
        rw [h1 72 (by decide), h5, d_m168, nI_add, if_neg (show ¬ (168 : Int32) ≤ nI k from nI_ge (b := 168) hk (by omega)), if_neg (nI_in hk (by omega)), if_neg (nI_in (show 168 * m + k < 1680 by omega) (by omega)), d_cl (show k < 2147483648 by omega), d_cl (show 168 * m + k < 2147483648 by omega), d_p1, h1 76 (by decide)]
      · by_cases e : j = k
        · subst e; rw [d_up_eq]
        · rw [d_up_nk (by omega)]; exact h2 j (by omega))
    (fun n t _ => by
      show f_X12_push_h54 (n + 1) _ _ = _
      rw [f_X12_push_h54]
      rw [if_pos (by decide)]) 168 0 ga_fuel s (by omega) (d_fuel (by omega)) ⟨fun _ _ => rfl, fun j hj => by omega, fun _ _ => rfl⟩
  refine ⟨_, e1, fun c c1 c2 => by rw [d_up_ne c1, i1 c c2], fun f hf => by rw [d_up_nk (by omega), i1 72 (by decide)], by rw [d_up_eq, i1 72 (by decide), h5, d_p1], fun j hj => by rw [d_up_ne (by decide)]; exact i2 j hj, fun i hi => by rw [d_up_ne (by decide)]; exact i3 i hi⟩
theorem dm_push13 (s : ga_M) : ∃ s1, f_X12_push_h13 ga_fuel 168 s = f_X12_push_h54 ga_fuel 0 (ga_up s1 72 5 ((s1 72 5) - 1)) ∧ (∀ c, c ≠ 77 → s1 c = s c) ∧ ∀ i, i < 1512 → s1 77 i = s 77 (i + 168) := by
  obtain ⟨s1, e1, i1, i2, i3⟩ := d_sl (F := fun n k s => f_X12_push_h13 n (nI k) s) (M := 1680) (G := fun t => f_X12_push_h54 ga_fuel 0 (ga_up t 72 5 ((t 72 5) - 1)))
    (I := fun k t => (∀ c, c ≠ 77 → t c = s c) ∧ (∀ i, i + 168 < k → t 77 i = s 77 (i + 168)) ∧ (168 ≤ k ∧ ∀ i, k ≤ i + 168 → t 77 i = s 77 i))
    (fun n k t hk hI => by
      obtain ⟨h1, h2, h3, h4⟩ := hI
      refine ⟨ga_up t 77 (k - 168) (s 77 k), ?_, fun c hc => by rw [d_up_ne hc, h1 c hc], fun i hi => ?_, by omega, fun i hi => by rw [d_up_nk (by omega), h4 i (by omega)]⟩
      · show f_X12_push_h13 (n + 1) _ _ = _
        rw [f_X12_push_h13]
        dsimp only
        rw [if_neg (show ¬ (1680 : Int32) ≤ nI k from nI_ge (b := 1680) hk (by omega)), if_neg (nI_in hk (by omega)), show nI k - 168 = nI (k - 168) from pk_sub h3, if_neg (nI_in (show k - 168 < 1680 by omega) (by omega)), d_cl (show k < 2147483648 by omega), d_cl (show k - 168 < 2147483648 by omega), d_p1, h4 k (by omega)]
      · by_cases e : i = k - 168
        · rw [e, d_up_eq, show k - 168 + 168 = k by omega]
        · rw [d_up_nk (by omega)]; exact h2 i (by omega))
    (fun n t _ => by
      show f_X12_push_h13 (n + 1) _ _ = _
      rw [f_X12_push_h13]
      dsimp only
      rw [if_pos (by decide)]) 1512 168 ga_fuel s (by omega) (d_fuel (by omega)) ⟨fun _ _ => rfl, fun j hj => by omega, by omega, fun _ _ => rfl⟩
  exact ⟨s1, e1, i1, fun i hi => i2 i (by omega)⟩
/-- what is noted is kept -/
theorem dm_push (hN6 : N 6 ≤ 40) {m : Nat} {H : Nat → Nat → Nat → Int32} {P0 : Nat → Nat → Int32} (h : dMH N m H s) (h0 : dMl N P0 s 76 0) : ∃ s2, f_X12_push s = some s2 ∧ (∀ c, c ≠ 72 → c ≠ 77 → s2 c = s c) ∧ (∀ f, f ≠ 5 → s2 72 f = s 72 f) ∧ dMH N (hN m) (hH m H P0) s2 := by
  obtain ⟨hm, h5, hp⟩ := h
  rw [fe_X12_push]; unfold fb_X12_push
  rw [h5]
  by_cases c : m < 10
  · rw [if_neg (fun e => by
      have := (nI_eq (a := m) (b := 10) (by omega) (by omega)).mp e
      omega)]
    obtain ⟨s2, e1, i1, i2, i3, i4, i5⟩ := dm_push54 c h5
    refine ⟨s2, e1, i1, i2, ?_⟩
    unfold hN
    rw [if_pos c]
    refine ⟨by omega, i3, fun p hp2 => ?_⟩
    unfold hH
    rw [if_pos c]
    by_cases e : p = m
    · subst e
      rw [if_pos rfl]
      exact dMl_cong hN6 (fun i hi => by rw [i4 i hi, Nat.zero_add]) h0
    · rw [if_neg e]
      exact dMl_cong hN6 (fun i hi => by rw [i5 _ (by omega)]) (hp p (by omega))
  · have e10 : m = 10 := by omega
    subst e10
    rw [if_pos (show nI 10 = 10 from rfl)]
    obtain ⟨s1, e1, i1, i2⟩ := dm_push13 s
    rw [e1]
    have h9 : (ga_up s1 72 5 ((s1 72 5) - 1)) 72 5 = nI 9 := by rw [d_up_eq, i1 72 (by decide), h5]; rfl
    obtain ⟨s2, e2, j1, j2, j3, j4, j5⟩ := dm_push54 (m := 9) (by omega) h9
    refine ⟨s2, e2, fun a a1 a2 => by rw [j1 a a1 a2, d_up_ne a1, i1 a a2], fun f hf => by rw [j2 f hf, d_up_nk (by omega), i1 72 (by decide)], ?_⟩
    unfold hN
    rw [if_neg c]
    refine ⟨by omega, j3, fun p hp2 => ?_⟩
    unfold hH
    rw [if_neg c]
    by_cases e : p = 9
    · subst e
      rw [if_pos rfl]
      exact dMl_cong hN6 (fun i hi => by rw [j4 i hi, d_up_ne (by decide), i1 76 (by decide), Nat.zero_add]) h0
    · rw [if_neg e]
      exact dMl_cong hN6 (fun i hi => by rw [j5 _ (by omega), d_up_ne (by decide), i2 _ (by omega), show 168 * p + i + 168 = 168 * (p + 1) + i by omega]) (hp (p + 1) (by omega))
theorem dm_remember (hN6 : N 6 ≤ 40) {m : Nat} {H : Nat → Nat → Nat → Int32} (h : dMH N m H s) (hM : dM N Q P s) : ∃ s2, f_X12_remember s = some s2 ∧ (∀ c, c ≠ 72 → c ≠ 76 → c ≠ 77 → s2 c = s c) ∧ (∀ f, f ≠ 5 → s2 72 f = s 72 f) ∧ dMH N (hN m) (hH m H P) s2 := by
  rw [fe_X12_remember]; unfold fb_X12_remember
  obtain ⟨s1, e1, i1, i2⟩ := dm_copy_to s
  obtain ⟨s2, e2, j1, j2, j3⟩ := dm_push (P0 := P) hN6 (dMH_cong (by rw [i1 72 (by decide)]) (i1 77 (by decide)) h) (dMl_cong hN6 (fun i hi => by rw [Nat.zero_add, i2 i hi]) (dMP_l.mp hM.2))
  rw [e1, Option.bind_some, e2, Option.bind_some]
  exact ⟨s2, rfl, fun c c1 c2 c3 => by rw [j1 c c1 c3, i1 c c2], fun f hf => by rw [j2 f hf, i1 72 (by decide)], j3⟩
end D32
