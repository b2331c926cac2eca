section D31
/-! ===== history: the class's ring, the reference's row ===== -/
variable {N : Nat → Nat} {Q P : Nat → Nat → Int32} {s : ga_M}
/-- a loop over the state -/
theorem d_sl {α : Type} {F : Nat → Nat → ga_M → Option α} {I : Nat → ga_M → Prop} {M : Nat} {G : ga_M → Option α}
    (hs : ∀ n k s, k < M → I k s → ∃ s2, F (n + 1) k s = F n (k + 1) s2 ∧ I (k + 1) s2) (he : ∀ n s, I M s → F (n + 1) M s = G s) :
    ∀ m k n s, k + m = M → m < n → I k s → ∃ s2, F n k s = G s2 ∧ I M s2 := by
  intro m
  induction m with
  | zero =>
    intro k n s hk hn h
    obtain ⟨n, rfl⟩ : ∃ j, n = j + 1 := ⟨n - 1, by omega⟩
    have : k = M := by omega
    subst this
    exact ⟨s, he n s h, h⟩
  | succ m ih =>
    intro k n s hk hn h
    obtain ⟨n, rfl⟩ : ∃ j, n = j + 1 := ⟨n - 1, by omega⟩
    obtain ⟨s2, h1, h2⟩ := hs n k s (by omega) h
    obtain ⟨s3, h3, h4⟩ := ih (k + 1) n s2 (by omega) (by omega) h2
    exact ⟨s3, by rw [h1, h3], h4⟩
theorem d_m4 (k : Nat) : (4 : Int32) * nI k = nI (4 * k) := pk_mul 4 k
theorem d_m168 (k : Nat) : (168 : Int32) * nI k = nI (168 * k) := pk_mul 168 k
theorem d_n168 (k : Nat) : nI k * 168 = nI (k * 168) := pk_mul k 168
theorem d_p1 (k : Nat) : nI k + 1 = nI (k + 1) := nI_1 k
theorem d_p2 (k : Nat) : nI k + 2 = nI (k + 2) := nI_add k 2
theorem d_p3 (k : Nat) : nI k + 3 = nI (k + 3) := nI_add k 3
theorem d_p160 (k : Nat) : nI k + 160 = nI (k + 160) := nI_add k 160
theorem d_r11 {k : Nat} (h : k < 2147483648) : nI k - nI k / 11 * 11 = nI (k % 11) := pk_rem (d := 11) h (by omega) (by omega)
/-- a plan in the class's ring, in a row of the reference -/
def dPl (N : Nat → Nat) (p : Nat → Nat → Int32) (s : ga_M) (b : Nat) : Prop :=
  (∀ k, k < N 6 → s 44 (b + 4 * k) = p 0 k ∧ s 44 (b + 4 * k + 1) = p 1 k ∧ s 44 (b + 4 * k + 2) = p 2 k ∧ s 44 (b + 4 * k + 3) = p 3 k) ∧ ∀ k, k < 8 → s 44 (b + 160 + k) = p 4 k
def dMl (N : Nat → Nat) (p : Nat → Nat → Int32) (s : ga_M) (a b : Nat) : Prop :=
  (∀ k, k < N 6 → s a (b + k) = p 0 k ∧ s a (b + (40 + k)) = p 1 k ∧ s a (b + (80 + k)) = p 2 k ∧ s a (b + (120 + k)) = p 3 k) ∧ ∀ k, k < 8 → s a (b + (160 + k)) = p 4 k
/-- the ring's first places hold H 0, .., H (m - 1) -/
def dRing (N : Nat → Nat) (m o : Nat) (H : Nat → Nat → Nat → Int32) (s : ga_M) : Prop := m ≤ 10 ∧ o < 11 ∧ s 42 2 = nI o ∧ s 42 3 = nI m ∧ ∀ p, p < m → dPl N (H p) s ((o + p) % 11 * 168)
def dCH (N : Nat → Nat) (m : Nat) (H : Nat → Nat → Nat → Int32) (s : ga_M) : Prop := ∃ o, dRing N m o H s
/-- the same, and the next place holds a plan that is marked -/
def dCHm (N : Nat → Nat) (m : Nat) (H : Nat → Nat → Nat → Int32) (P : Nat → Nat → Int32) (s : ga_M) : Prop := ∃ o, dRing N m o H s ∧ dPl N P s ((o + m) % 11 * 168)
def dMH (N : Nat → Nat) (m : Nat) (H : Nat → Nat → Nat → Int32) (s : ga_M) : Prop := m ≤ 10 ∧ s 72 5 = nI m ∧ ∀ p, p < m → dMl N (H p) s 77 (168 * p)
def hN (m : Nat) : Nat := if m < 10 then m + 1 else 10
def hH (m : Nat) (H : Nat → Nat → Nat → Int32) (P : Nat → Nat → Int32) (p : Nat) : Nat → Nat → Int32 := if m < 10 then (if p = m then P else H p) else (if p = 9 then P else H (p + 1))
theorem dPl_cong {p : Nat → Nat → Int32} {s2 : ga_M} {b : Nat} (e : s2 44 = s 44) (h : dPl N p s b) : dPl N p s2 b := by
  unfold dPl at *; rw [e]; exact h
theorem dRing_cong {m o : Nat} {H : Nat → Nat → Nat → Int32} {s2 : ga_M} (e1 : s2 42 = s 42) (e2 : s2 44 = s 44) (h : dRing N m o H s) : dRing N m o H s2 := by
  obtain ⟨h1, h2, h3, h4, h5⟩ := h
  exact ⟨h1, h2, by rw [e1]; exact h3, by rw [e1]; exact h4, fun p hp => dPl_cong e2 (h5 p hp)⟩
theorem dCHm_cong {m : Nat} {H : Nat → Nat → Nat → Int32} {P : Nat → Nat → Int32} {s2 : ga_M} (e1 : s2 42 = s 42) (e2 : s2 44 = s 44) (h : dCHm N m H P s) : dCHm N m H P s2 := by
  obtain ⟨o, h1, h2⟩ := h
  exact ⟨o, dRing_cong e1 e2 h1, dPl_cong e2 h2⟩
theorem dCHm_CH {m : Nat} {H : Nat → Nat → Nat → Int32} {P : Nat → Nat → Int32} (h : dCHm N m H P s) : dCH N m H s := by
  obtain ⟨o, h1, _⟩ := h
  exact ⟨o, h1⟩
theorem dMH_cong {m : Nat} {H : Nat → Nat → Nat → Int32} {s2 : ga_M} (e1 : s2 72 5 = s 72 5) (e2 : s2 77 = s 77) (h : dMH N m H s) : dMH N m H s2 := by
  unfold dMH dMl at *; rw [e1, e2]; exact h
theorem dc_baseOf {a o : Nat} (h : s 42 2 = nI o) (hb : o + a < 2147483648) : f_X1_baseOf (nI a) s = some (nI ((o + a) % 11 * 168)) := by
  rw [fe_X1_baseOf]; unfold fb_X1_baseOf
  rw [if_neg (by decide), h, nI_add, d_r11 hb, d_n168]
/-- the marking -/
theorem dc_mark (hN6 : N 6 ≤ 40) {m : Nat} {H : Nat → Nat → Nat → Int32} (hC : dC N Q P s) (h : dCH N m H s) : ∃ s2, f_X1_mark s = some s2 ∧ (∀ c, c ≠ 44 → s2 c = s c) ∧ dCHm N m H P s2 := by
  obtain ⟨o, hr⟩ := h
  have ho := hr.2.1
  have hm := hr.1
  have hq : (o + m) % 11 < 11 := Nat.mod_lt _ (by omega)
  rw [fe_X1_mark]; unfold fb_X1_mark
  rw [hr.2.2.2.1, dc_baseOf hr.2.2.1 (by omega), Option.bind_some]
  generalize hbq : (o + m) % 11 = q at hq ⊢
  obtain ⟨s1, e1, i1, i2, i3⟩ := d_sl (F := fun n k s => f_X1_mark_h11 n (nI (q * 168)) (nI k) s) (M := 40) (G := fun s => f_X1_mark_h123 ga_fuel (nI (q * 168)) 0 s)
    (I := fun k t => (∀ c, c ≠ 44 → t c = s c) ∧ (∀ j, j < k → t 44 (q * 168 + 4 * j) = s 22 j ∧ t 44 (q * 168 + 4 * j + 1) = s 24 j ∧ t 44 (q * 168 + 4 * j + 2) = s 26 j ∧ t 44 (q * 168 + 4 * j + 3) = s 28 j) ∧ ∀ i, i < q * 168 ∨ q * 168 + 168 ≤ i → t 44 i = s 44 i)
    (fun n k t hk hI => by
      obtain ⟨h1, h2, h3⟩ := hI
      refine ⟨ga_up (ga_up (ga_up (ga_up t 44 (q * 168 + 4 * k) (s 22 k)) 44 (q * 168 + 4 * k + 1) (s 24 k)) 44 (q * 168 + 4 * k + 2) (s 26 k)) 44 (q * 168 + 4 * k + 3) (s 28 k), ?_, fun c hc => by rw [d_up_ne hc, d_up_ne hc, d_up_ne hc, d_up_ne hc, h1 c hc], fun j hj => ?_, fun i hi => by rw [d_up_nk (by omega), d_up_nk (by omega), d_up_nk (by omega), d_up_nk (by omega), h3 i hi]⟩
      · show f_X1_mark_h11 (n + 1) _ _ _ = _
        rw [f_X1_mark_h11]
        dsimp only
        rw [if_neg (show ¬ (40 : Int32) ≤ nI k from nI_ge (b := 40) hk (by omega)), d_m4, nI_add, d_p1, d_p2, d_p3, d_p1]
        simp (disch := omega) only [d_at, d_pt]
        rw [d_up_ne (show 28 ≠ 44 by decide), d_up_ne (show 28 ≠ 44 by decide), d_up_ne (show 28 ≠ 44 by decide), d_up_ne (show 26 ≠ 44 by decide), d_up_ne (show 26 ≠ 44 by decide), d_up_ne (show 24 ≠ 44 by decide), h1 22 (by decide), h1 24 (by decide), h1 26 (by decide), h1 28 (by decide)]
      · by_cases e : j = k
        · subst e
          refine ⟨?_, ?_, ?_, ?_⟩
          · rw [d_up_nk (by omega), d_up_nk (by omega), d_up_nk (by omega), d_up_eq]
          · rw [d_up_nk (by omega), d_up_nk (by omega), d_up_eq]
          · rw [d_up_nk (by omega), d_up_eq]
          · rw [d_up_eq]
        · have h4 := h2 j (by omega)
          refine ⟨?_, ?_, ?_, ?_⟩
          · rw [d_up_nk (by omega), d_up_nk (by omega), d_up_nk (by omega), d_up_nk (by omega)]; exact h4.1
          · rw [d_up_nk (by omega), d_up_nk (by omega), d_up_nk (by omega), d_up_nk (by omega)]; exact h4.2.1
          · rw [d_up_nk (by omega), d_up_nk (by omega), d_up_nk (by omega), d_up_nk (by omega)]; exact h4.2.2.1
          · rw [d_up_nk (by omega), d_up_nk (by omega), d_up_nk (by omega), d_up_nk (by omega)]; exact h4.2.2.2)
    (fun n t _ => by
      show f_X1_mark_h11 (n + 1) _ _ _ = _
      rw [f_X1_mark_h11]
      rw [if_pos (by decide)]) 40 0 ga_fuel s (by omega) (d_fuel (by omega)) ⟨fun _ _ => rfl, fun j hj => by omega, fun _ _ => rfl⟩
  rw [show f_X1_mark_h11 ga_fuel (nI (q * 168)) 0 s = _ from e1]
  obtain ⟨s2, e2, j1, j2, j3⟩ := d_sl (F := fun n k s => f_X1_mark_h123 n (nI (q * 168)) (nI k) s) (M := 8) (G := some)
    (I := fun k t => (∀ c, c ≠ 44 → t c = s c) ∧ (∀ j, j < k → t 44 (q * 168 + 160 + j) = s 30 j) ∧ ∀ i, i < q * 168 + 160 ∨ q * 168 + 168 ≤ i → t 44 i = s1 44 i)
    (fun n k t hk hI => by
      obtain ⟨h1, h2, h3⟩ := hI
      refine ⟨ga_up t 44 (q * 168 + 160 + k) (s 30 k), ?_, fun c hc => by rw [d_up_ne hc, h1 c hc], fun j hj => ?_, fun i hi => by rw [d_up_nk (by omega), h3 i hi]⟩
      · show f_X1_mark_h123 (n + 1) _ _ _ = _
        rw [f_X1_mark_h123]
        dsimp only
        rw [if_neg (show ¬ (8 : Int32) ≤ nI k from nI_ge (b := 8) hk (by omega)), d_p160, nI_add, d_p1, d_at (show k < 8 by omega) (by omega), d_pt (show q * 168 + 160 + k < 1848 by omega) (by omega), h1 30 (by decide)]
      · by_cases e : j = k
        · subst e; rw [d_up_eq]
        · rw [d_up_nk (by omega)]; exact h2 j (by omega))
    (fun n t _ => by
      show f_X1_mark_h123 (n + 1) _ _ _ = _
      rw [f_X1_mark_h123]
      rw [if_pos (by decide)]) 8 0 ga_fuel s1 (by omega) (d_fuel (by omega)) ⟨i1, fun j hj => by omega, fun _ _ => rfl⟩
  refine ⟨s2, e2, j1, o, ⟨hm, ho, by rw [j1 42 (by decide)]; exact hr.2.2.1, by rw [j1 42 (by decide)]; exact hr.2.2.2.1, fun p hp => ?_⟩, ?_⟩
  · have hpq : (o + p) % 11 ≠ q := by omega
    have hp2 : (o + p) % 11 < 11 := Nat.mod_lt _ (by omega)
    have hh := hr.2.2.2.2 p hp
    generalize (o + p) % 11 = r at hpq hp2 hh
    have eq : ∀ i, r * 168 ≤ i → i < r * 168 + 168 → s2 44 i = s 44 i := fun i h1 h2 => by
      rw [j3 i (by omega), i3 i (by omega)]
    refine ⟨fun k hk => ?_, fun k hk => by rw [eq _ (by omega) (by omega)]; exact hh.2 k hk⟩
    have := hh.1 k hk
    rw [eq _ (by omega) (by omega), eq _ (by omega) (by omega), eq _ (by omega) (by omega), eq _ (by omega) (by omega)]
    exact this
  · rw [hbq]
    refine ⟨fun k hk => ?_, fun k hk => by rw [j2 k hk]; exact dc30 hC hk⟩
    have := i2 k (by omega)
    rw [j3 _ (by omega), j3 _ (by omega), j3 _ (by omega), j3 _ (by omega), this.1, this.2.1, this.2.2.1, this.2.2.2]
    exact ⟨dc22 hC hk, dc24 hC hk, dc26 hC hk, dc28 hC hk⟩
theorem dc_keep {m : Nat} {H : Nat → Nat → Nat → Int32} {P0 : Nat → Nat → Int32} (h : dCHm N m H P0 s) : ∃ s2, f_X1_keepMarked s = some s2 ∧ (∀ c, c ≠ 42 → s2 c = s c) ∧ dCH N (hN m) (hH m H P0) s2 := by
  obtain ⟨o, ⟨hm, ho, h2, h3, h4⟩, h5⟩ := h
  rw [fe_X1_keepMarked]; unfold fb_X1_keepMarked hN
  rw [h3]
  by_cases c : m < 10
  · rw [if_neg (show ¬ (10 : Int32) ≤ nI m from nI_ge (b := 10) c (by omega)), d_p1, if_pos c]
    refine ⟨_, rfl, fun a ha => d_up_ne ha, o, by omega, ho, by rw [d_up_nk (by omega)]; exact h2, by rw [d_up_eq], fun p hp => ?_⟩
    unfold hH
    rw [if_pos c]
    by_cases e : p = m
    · subst e; rw [if_pos rfl]; exact dPl_cong (d_up_ne (by decide)) h5
    · rw [if_neg e]; exact dPl_cong (d_up_ne (by decide)) (h4 p (by omega))
  · have e10 : m = 10 := by omega
    subst e10
    rw [if_pos (by decide), if_neg (by decide), h2, d_p1, d_r11 (by omega), if_neg c]
    refine ⟨_, rfl, fun a ha => d_up_ne ha, (o + 1) % 11, by omega, by omega, by rw [d_up_eq], by rw [d_up_nk (by omega)]; exact h3, fun p hp => ?_⟩
    unfold hH
    rw [if_neg c]
    by_cases e : p = 9
    · subst e
      rw [if_pos rfl, show ((o + 1) % 11 + 9) % 11 = (o + 10) % 11 by omega]
      exact dPl_cong (d_up_ne (by decide)) h5
    · rw [if_neg e, show ((o + 1) % 11 + p) % 11 = (o + (p + 1)) % 11 by omega]
      exact dPl_cong (d_up_ne (by decide)) (h4 (p + 1) (by omega))
end D31
