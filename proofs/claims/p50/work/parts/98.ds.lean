section D28
/-! ===== the class's chain found ===== -/
variable {N : Nat → Nat} {Q P : Nat → Nat → Int32} {s : ga_M}
def gM (s : ga_M) (c : List Nat) : Prop := ∀ j, j < c.length → s 40 j = nI (c.getD j 0)
theorem dc_floop (hN : dWN N) {C : Nat → Bool} {E : Nat → Nat → Bool} {F : Nat → Bool} {fr : Int32}
    (hfr : ∀ t, t < N 3 → ∀ k, gR (N 3) E C k t → (bt fr t = true ∧ gLd N Q P t < Q 2 t ↔ F t = true)) :
    ∀ (m k n : Nat) (mask : Int32) (s : ga_M), dC N Q P s → k + m = 4 → m + 1 < n → s 32 6 = 0 →
    (∀ t, t < N 3 → ∀ i, i < 32 → (bt (s 34 t) i = true ↔ i < N 3 ∧ E t i = true)) →
    (∀ j, j < k → ∀ i, i < 32 → (bt (s 36 j) i = true ↔ gR (N 3) E C j i)) →
    (∀ i, i < 32 → (bt mask i = true ↔ gR (N 3) E C k i)) → (∀ c, gW (N 3) E F C c → c.length ≤ k → False) →
    ∃ s2 c, f_X0_find_h73 n fr mask (nI k) s = some (nI c.length, s2) ∧ (∀ a, a ≠ 32 → a ≠ 36 → a ≠ 38 → a ≠ 40 → s2 a = s a) ∧ s2 32 6 = nI c.length ∧ gM s2 c ∧ gBest (N 3) E F (gLd N Q P) C c := by
  have hB := dWN_b hN
  intro m
  induction m with
  | zero =>
    intro k n mask s h hk hn h6 h34 h36 hm hno
    obtain ⟨n, rfl⟩ : ∃ j, n = j + 1 := ⟨n - 1, by omega⟩
    have : k = 4 := by omega
    subst this
    unfold f_X0_find_h73
    rw [if_pos (by decide), h6]
    exact ⟨s, [], rfl, fun _ _ _ _ _ => rfl, h6, fun j hj => by simp at hj, Or.inl ⟨rfl, hno⟩⟩
  | succ m ih =>
    intro k n mask s h hk hn h6 h34 h36 hm hno
    obtain ⟨n, rfl⟩ : ∃ j, n = j + 2 := ⟨n - 2, by omega⟩
    unfold f_X0_find_h73
    dsimp only
    rw [if_neg (show ¬ (4 : Int32) ≤ nI k from nI_ge (b := 4) (by omega) (by omega)), if_pos h6, d_pt (show k < 4 by omega) (by omega), d_r1]
    generalize es : ga_up s 36 k mask = s1
    have hs1 : dC N Q P s1 := by rw [← es]; exact dC_lt (fun c hc => d_up_ne (by omega)) h
    have f34 : s1 34 = s 34 := by rw [← es]; exact d_up_ne (by decide)
    have f32 : s1 32 = s 32 := by rw [← es]; exact d_up_ne (by decide)
    have f38 : ∀ a, a ≠ 36 → s1 a = s a := fun a ha => by rw [← es]; exact d_up_ne ha
    have g36 : ∀ j, j < k + 1 → ∀ i, i < 32 → (bt (s1 36 j) i = true ↔ gR (N 3) E C j i) := by
      intro j hj i hi
      rw [← es]
      by_cases e : j = k
      · subst e; rw [d_up_eq]; exact hm i hi
      · rw [d_up_nk (fun o => e o.2)]; exact h36 j (by omega) i hi
    obtain ⟨su, hsu, hsb⟩ := dc_succs hN hs1 mask
    have hnext : ∀ i, i < 32 → (bt su i = true ↔ gR (N 3) E C (k + 1) i) := by
      intro i hi
      rw [hsb i hi]
      constructor
      · rintro ⟨t, ht, a1, a2⟩
        rw [f34, h34 t ht i hi] at a2
        exact ⟨a2.1, t, ht, (hm t (by omega)).mp a1, a2.2⟩
      · rintro ⟨hi3, t, ht, a1, a2⟩
        exact ⟨t, ht, (hm t (by omega)).mpr a1, by rw [f34, h34 t ht i hi]; exact ⟨hi3, a2⟩⟩
    have hel : ∀ t, t < N 3 → (gEl N Q P (mask &&& fr) t ↔ gR (N 3) E C k t ∧ F t = true) := by
      intro t ht
      unfold gEl
      rw [b_and, Bool.and_eq_true, hm t (by omega)]
      constructor
      · rintro ⟨⟨a1, a2⟩, a3⟩; exact ⟨a1, (hfr t ht k a1).mp ⟨a2, a3⟩⟩
      · rintro ⟨a1, a2⟩
        have := (hfr t ht k a1).mpr a2
        exact ⟨⟨a1, this.1⟩, this.2⟩
    obtain ⟨r, hr, hr2⟩ := dc_least hN hs1 (mask &&& fr)
    rw [hr, Option.bind_some]
    rcases hr2 with ⟨r0, hr3⟩ | ⟨r0, w, ⟨e, he, he2, he3⟩, hr4, hr5⟩
    · rw [if_pos r0, hsu, Option.bind_some]
      obtain ⟨s2, c, k1, k2, k3, k4, k5⟩ := ih (k + 1) (n + 1) su s1 hs1 (by omega) (by omega) (by rw [f32]; exact h6) (by rw [f34]; exact h34) g36 hnext (fun c hc hl => by
        by_cases e : c.length = k + 1
        · have := gR_walk k C c hc e
          exact hr3 (gLa c) (gR_lt this.1) ((hel _ (gR_lt this.1)).mpr this)
        · exact hno c hc (by omega))
      exact ⟨s2, c, k1, fun a a1 a2 a3 a4 => by rw [k2 a a1 a2 a3 a4, f38 a a2], k3, k4, k5⟩
    · rw [if_neg r0]
      -- the chain is as long as k + 1
      rw [fe_X0_choose]; unfold fb_X0_choose
      dsimp only
      rw [d_up_eq, nI_pred, d_pt (show k < 4 by omega) (by omega), d_up_ne (show 32 ≠ 38 by decide), d_up_eq]
      have e2 : nI (k + 1) - 2 = nI k - 1 := by
        have : nI (k + 1) = nI k + 1 := (nI_1 k).symm
        rw [this]
        apply Int32.toBitVec_inj.mp; simp only [Int32.toBitVec_sub, Int32.toBitVec_add]
        rw [show Int32.toBitVec 2 = 2#32 from rfl, show Int32.toBitVec 1 = 1#32 from rfl]
        bv_omega
      rw [e2]
      generalize e3s : ga_up (ga_up s1 32 6 (nI (k + 1))) 38 k r = s3
      have hs3 : dC N Q P s3 := by rw [← e3s]; exact dC_lt (fun c hc => by rw [d_up_ne (by omega), d_up_ne (by omega)]) hs1
      have g32 : s3 32 6 = nI (k + 1) := by rw [← e3s, d_up_ne (by decide), d_up_eq]
      have g34 : s3 34 = s 34 := by rw [← e3s, d_up_ne (by decide), d_up_ne (by decide), f34]
      have g36' : s3 36 = s1 36 := by rw [← e3s, d_up_ne (by decide), d_up_ne (by decide)]
      have g38 : s3 38 k = r := by rw [← e3s, d_up_eq]
      have gfr : ∀ a, a ≠ 32 → a ≠ 36 → a ≠ 38 → s3 a = s a := fun a a1 a2 a3 => by rw [← e3s, d_up_ne a3, d_up_ne a1, f38 a a2]
      have hA : ∀ i, bt r i = true → gR (N 3) E C k i ∧ F i = true ∧ gLd N Q P i = w := by
        intro i hb
        by_cases hi : i < 32
        · have := (hr5 i hi).mp hb
          have h2 := (hel i this.1).mp this.2.1
          exact ⟨h2.1, h2.2, this.2.2⟩
        · rw [b_big (by omega)] at hb; cases hb
      have hE := (hel e he).mp he2
      have hAe : bt r e = true := (hr5 e (by omega)).mpr ⟨he, he2, he3⟩
      obtain ⟨s4, b1, b2, b3⟩ := dc_bwd (A := fun i => bt r i = true) (C0 := C) (L := k + 1) hN (by omega) k ga_fuel s3 hs3 (by omega) (d_fuel (by omega)) g32 (by rw [g34]; exact h34) (by rw [g36']; exact g36) (fun j hj1 hj2 i hi => by
        have : j = k := by omega
        subst this
        rw [g38, show j + 1 - 1 - j = 0 by omega]
        exact ⟨fun hb => ⟨(hA i hb).1, hb⟩, fun o => o.2⟩)
      obtain ⟨t1, ht1, hC1, hF1⟩ := gR_fin (A := fun i => bt r i = true) k 0 e hE.1 hAe
      rw [Nat.zero_add] at hF1
      obtain ⟨s5, c, c1, c2, c3, c4, c5, c6⟩ := dc_fwd (A := fun i => bt r i = true) (C0 := C) (L := k + 1) hN (by omega) k 0 ga_fuel C (s3 36 0) s4 (by omega) (d_fuel (by omega)) (by rw [b2 32 (by decide)]; exact g32) (by rw [b2 34 (by decide), g34]; exact h34) b3
        (fun i hi => by rw [g36', g36 0 (by omega) i hi]; exact Iff.rfl) (fun i h1 h2 => ⟨h1, h2⟩) ⟨t1, ht1, hC1, hF1⟩
      have hs5 : dC N Q P s5 := dC_lt (fun a ha => by rw [c2 a (by omega), b2 a (by omega)]) hs3
      obtain ⟨su2, hsu2, _⟩ := dc_succs hN hs5 mask
      rw [b1, show f_X0_choose_h72 ga_fuel (s3 36 0) 0 s4 = some s5 from c1, Option.bind_some, hsu2, Option.bind_some]
      have h56 : s5 32 6 = nI (k + 1) := by rw [c2 32 (by decide), b2 32 (by decide)]; exact g32
      have hfin : f_X0_find_h73 (n + 1) fr su2 (nI (k + 1)) s5 = some (nI (k + 1), s5) := by
        unfold f_X0_find_h73
        dsimp only
        rw [h56, if_neg (nI_ne0 (by omega) (by omega))]
        split <;> rfl
      obtain ⟨w1, w2, w3, w4⟩ := gG_walk (F := F) (fun t ht => (hA t ht).2.1) k C c c4
      refine ⟨s5, c, by rw [c5]; exact hfin, fun a a1 a2 a3 a4 => by rw [c2 a a4, b2 a a3, gfr a a1 a2 a3], by rw [c5]; exact h56, fun j hj => ?_, Or.inr ⟨by omega, by omega, ⟨⟨w1, rfl⟩, fun c' hc' => ?_⟩, fun c' hc' => ?_⟩⟩
      · have := c6 j (by omega)
        rw [Nat.zero_add] at this
        exact this
      · have hr6 := gR_walk k C c' hc'.1 (by rw [hc'.2, w2])
        have hw := hr4 (gLa c') (gR_lt hr6.1) ((hel _ (gR_lt hr6.1)).mpr hr6)
        have hlc := (hA _ w3).2.2
        by_cases ew : gLd N Q P (gLa c') = w
        · refine Or.inr ⟨by rw [hlc, ew], w4 c' hc'.1 (by rw [hc'.2, w2]) ?_⟩
          have h3 := gR_lt hr6.1
          exact (hr5 (gLa c') (by omega)).mpr ⟨h3, (hel _ h3).mpr hr6, ew⟩
        · left
          rw [hlc, Int32.lt_iff_toInt_lt]
          rw [Int32.le_iff_toInt_le] at hw
          have : w.toInt ≠ (gLd N Q P (gLa c')).toInt := fun e => ew (Int32.toInt_inj.mp e).symm
          omega
      · by_cases hl : c.length ≤ c'.length
        · exact hl
        · exact (hno c' hc' (by omega)).elim
/-- the class's chain -/
theorem dc_find (hW : dW N Q P) (h : dC N Q P s) {l : Nat} (hl : l < N 6) : ∃ s2 c, f_X0_find (nI l) s = some (nI c.length, s2) ∧ (∀ a, a ≠ 32 → a ≠ 34 → a ≠ 36 → a ≠ 38 → a ≠ 40 → s2 a = s a) ∧ s2 32 6 = nI c.length ∧ gM s2 c ∧
    (P 1 l ≠ -1 → c = []) ∧ (P 1 l = -1 → gBest (N 3) (gE N Q P (P 0 l)) (gF N Q P (P 0 l)) (gLd N Q P) (gC N Q P (P 0 l) l) c) := by
  have hN := hW.1
  have hB := dWN_b hN
  obtain ⟨x, hx, ex⟩ := hW.2.2.1 l hl
  obtain ⟨q, hq, eq⟩ := hW.2.1.1 l hl
  rw [fe_X0_find]; unfold fb_X0_find
  dsimp only
  generalize es : ga_up s 32 6 0 = s1
  have hs := h
  have h : dC N Q P s1 := by rw [← es]; exact dC_lt (fun c hc => d_up_ne (by omega)) hs
  have f32 : s1 32 6 = 0 := by rw [← es, d_up_eq]
  have ffr : ∀ a, a ≠ 32 → s1 a = s a := fun a ha => by rw [← es]; exact d_up_ne ha
  rw [dc_isOpen hN h hl]
  by_cases c1 : P 1 l = -1
  · have e0 : ¬ aB (decide (P 1 l = -1)) = 0 := by rw [decide_eq_true c1]; decide
    rw [if_neg e0, d_at (show l < 40 by omega) (by omega), dc22 h hl, ex, dc_presentAt hN h hx, Option.bind_some]
    obtain ⟨m, s2, h1, h2, h3, h4⟩ := dc_busyAt hW h hx
    have hs2 : dC N Q P s2 := dC_lt (fun a ha => h2 a (by omega)) h
    rw [h1, Option.bind_some]
    dsimp only
    rw [d_at (show l < 40 by omega) (by omega), dc13 hs2 hl, eq, dc_qualifiedFor hN hs2 (show q < 31 by omega), Option.bind_some]
    obtain ⟨s3, c, k1, k2, k3, k4, k5⟩ := dc_floop (Q := Q) (P := P) (C := gC N Q P (nI x) l) (E := gE N Q P (nI x)) (F := gF N Q P (nI x)) (fr := dMs (fun t => !aAway N P t (nI x)) (N 3) &&& (m ^^^ (-1))) hN (fun t ht k hr => by
        have hpres : aAway N P t (nI x) = false := by
          cases k with
          | zero =>
            have := hr.2
            unfold gC at this
            rw [Bool.and_eq_true] at this
            simpa using this.1
          | succ k =>
            obtain ⟨_, t', _, _, hE⟩ := hr
            unfold gE at hE
            rw [decide_eq_true_eq] at hE
            obtain ⟨j, _, _, _, _, hg⟩ := hE
            unfold gC at hg
            rw [Bool.and_eq_true] at hg
            simpa using hg.1
        rw [b_and, b_xor, b_m1 t (by omega), Bool.and_eq_true, b_msI (by omega) (by omega)]
        unfold gF
        rw [Bool.and_eq_true, decide_eq_true_eq, decide_eq_true_eq, Bool.xor_true]
        have hfree : (!bt m t) = true ↔ aAt N P 1 (nI x) (nI t) = -1 := by
          unfold aAt
          rw [dFind_none (by omega)]
          constructor
          · intro hb j hj
            by_cases hh : P 0 j = nI x ∧ P 1 j = nI t
            · have := (h3 t (by omega)).mpr ⟨j, hj, hh⟩
              rw [this] at hb; cases hb
            · by_cases a1 : P 0 j = nI x
              · simp [show ¬ P 1 j = nI t from fun a2 => hh ⟨a1, a2⟩]
              · simp [a1]
          · intro hall
            cases hb : bt m t with
            | false => rfl
            | true =>
              obtain ⟨j, hj, a1, a2⟩ := (h3 t (by omega)).mp hb
              have := hall j hj
              simp [a1, a2] at this
        constructor
        · rintro ⟨⟨_, a2⟩, a3⟩; exact ⟨hfree.mp a2, a3⟩
        · rintro ⟨a1, a2⟩; exact ⟨⟨⟨ht, by rw [hpres]; rfl⟩, hfree.mpr a1⟩, a2⟩)
      4 0 ga_fuel (dMs (fun t => !aAway N P t (nI x)) (N 3) &&& dMs (fun k => dHb (Q 3 k) (nI q)) (N 3)) s2 hs2 (by omega) (d_fuel (by omega)) (by rw [h2 32 (by decide)]; exact f32) h4 (fun j hj => by omega)
      (fun i hi => by
        rw [b_and, Bool.and_eq_true, b_msI (by omega) hi, b_msI (by omega) hi]
        unfold gR gC aQual
        rw [eq, Bool.and_eq_true]
        exact ⟨fun ⟨⟨a1, a2⟩, _, a3⟩ => ⟨a1, a2, a3⟩, fun ⟨a1, a2, a3⟩ => ⟨⟨a1, a2⟩, a1, a3⟩⟩)
      (fun c hc hl => by
        have : c = [] := List.length_eq_zero_iff.mp (by omega)
        subst this
        exact hc)
    refine ⟨s3, c, k1, fun a a1 a2 a3 a4 a5 => by rw [k2 a a1 a3 a4 a5, h2 a a2, ffr a a1], k3, k4, fun e => absurd c1 e, fun _ => k5⟩
  · have e0 : aB (decide (P 1 l = -1)) = 0 := by rw [decide_eq_false c1]; rfl
    rw [if_pos e0]
    exact ⟨s1, [], rfl, fun a a1 _ _ _ _ => ffr a a1, f32, fun j hj => by simp at hj, fun _ => rfl, fun e => absurd e c1⟩
end D28
