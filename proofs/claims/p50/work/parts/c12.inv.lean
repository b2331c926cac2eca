section E2
/-! ===== the timetable agrees with itself: what every change keeps ===== -/
variable {N : Nat → Nat} {Q P : Nat → Nat → Int32}
/-- classes, kinds of rooms, absences, qualifications -/
def kV (N : Nat → Nat) (Q P : Nat → Nat → Int32) : Prop :=
  (∀ i k, i < N 6 → k < N 6 → i ≠ k → P 0 i = P 0 k → Q 5 i ≠ Q 5 k) ∧ (∀ k, k < N 6 → Q 4 (P 2 k).toNatClampNeg = Q 1 (Q 6 k).toNatClampNeg) ∧
  (∀ k t, k < N 6 → t < N 3 → P 1 k = nI t → aAway N P t (P 0 k) = false) ∧ ∀ k t, k < N 6 → t < N 3 → P 1 k = nI t → P 3 k = 0 → aQual Q t k = true
/-- .. of the first timetable -/
def kV0 (N : Nat → Nat) (Q : Nat → Nat → Int32) : Prop :=
  (∀ i k, i < N 6 → k < N 6 → i ≠ k → Q 7 i = Q 7 k → Q 5 i ≠ Q 5 k) ∧ (∀ k, k < N 6 → Q 4 (Q 9 k).toNatClampNeg = Q 1 (Q 6 k).toNatClampNeg) ∧ ∀ k t, k < N 6 → t < N 3 → Q 8 k = nI t → aQual Q t k = true
theorem aCover_z {l t : Nat} (h : aCover N Q P l t = 0) : aTaught P l = false ∧ aAway N P t (P 0 l) = false ∧ aQual Q t l = true ∧ aAt N P 1 (P 0 l) (nI t) = -1 ∧ aLoad N Q P (nI t) < Q 2 t := by
  unfold aCover at h
  by_cases c1 : aTaught P l = true
  · rw [if_pos c1] at h; exact absurd h (by decide)
  · rw [if_neg c1] at h
    by_cases c2 : aAway N P t (P 0 l) = true
    · rw [if_pos c2] at h; exact absurd h (by decide)
    · rw [if_neg c2] at h
      by_cases c3 : aQual Q t l = false
      · rw [if_pos c3] at h; exact absurd h (by decide)
      · rw [if_neg c3] at h
        by_cases c4 : aAt N P 1 (P 0 l) (nI t) = -1
        · rw [if_neg (fun q => q c4)] at h
          by_cases c5 : aLoad N Q P (nI t) < Q 2 t
          · exact ⟨by simpa using c1, by simpa using c2, by simpa using c3, c4, c5⟩
          · rw [if_neg c5] at h; exact absurd h (by decide)
        · rw [if_pos c4] at h; exact absurd h (by decide)
theorem aCover_y {l t : Nat} (h1 : aTaught P l = false) (h2 : aAway N P t (P 0 l) = false) (h3 : aQual Q t l = true) (h4 : aAt N P 1 (P 0 l) (nI t) = -1) (h5 : aLoad N Q P (nI t) < Q 2 t) : aCover N Q P l t = 0 := by
  unfold aCover
  rw [if_neg (by rw [h1]; decide), if_neg (by rw [h2]; decide), if_neg (by rw [h3]; decide), if_neg (fun q => q h4), if_pos h5]
theorem aSuper_z {l t : Nat} (h : aSuper N P l t = 0) : P 1 l = -1 ∧ aAway N P t (P 0 l) = false ∧ aAt N P 1 (P 0 l) (nI t) = -1 := by
  unfold aSuper at h
  by_cases c1 : P 1 l = -1
  · rw [if_neg (fun q => q c1)] at h
    by_cases c2 : aAway N P t (P 0 l) = true
    · rw [if_pos c2] at h; exact absurd h (by decide)
    · rw [if_neg c2] at h
      by_cases c4 : aAt N P 1 (P 0 l) (nI t) = -1
      · exact ⟨c1, by simpa using c2, c4⟩
      · rw [if_pos c4] at h; exact absurd h (by decide)
  · rw [if_pos c1] at h; exact absurd h (by decide)
theorem aExch_z {l o : Nat} (h : aExch N Q P l o = 0) : Q 5 l = Q 5 o ∧ P 0 l ≠ P 0 o ∧ P 1 l ≠ -1 ∧ P 1 o ≠ -1 ∧ dHb (P 4 (P 1 l).toNatClampNeg) (aDay N (P 0 o)) = false ∧ dHb (P 4 (P 1 o).toNatClampNeg) (aDay N (P 0 l)) = false := by
  unfold aExch at h
  by_cases c1 : Q 5 l = Q 5 o
  · rw [if_neg (fun q => q c1)] at h
    by_cases c2 : P 0 l = P 0 o
    · rw [if_pos c2] at h; exact absurd h (by decide)
    · rw [if_neg c2] at h
      by_cases c3 : P 1 l = -1 ∨ P 1 o = -1
      · rw [if_pos c3] at h; exact absurd h (by decide)
      · rw [if_neg c3] at h
        by_cases c4 : dHb (P 4 (P 1 l).toNatClampNeg) (aDay N (P 0 o)) = true ∨ dHb (P 4 (P 1 o).toNatClampNeg) (aDay N (P 0 l)) = true
        · rw [if_pos c4] at h; exact absurd h (by decide)
        · have c3 := not_or.mp c3
          have c4 := not_or.mp c4
          exact ⟨c1, c2, c3.1, c3.2, by simpa using c4.1, by simpa using c4.2⟩
  · rw [if_pos c1] at h; exact absurd h (by decide)
theorem aMove_z {l : Nat} {x : Int32} (h : aMove N Q P l x = 0) : P 0 l ≠ x ∧ aAtC N Q P x (Q 5 l) = -1 ∧ (P 1 l ≠ -1 → dHb (P 4 (P 1 l).toNatClampNeg) (aDay N x) = false) := by
  unfold aMove at h
  by_cases c1 : P 0 l = x
  · rw [if_pos c1] at h; exact absurd h (by decide)
  · rw [if_neg c1] at h
    by_cases c2 : aAtC N Q P x (Q 5 l) = -1
    · rw [if_neg (fun q => q c2)] at h
      by_cases c3 : P 1 l ≠ -1 ∧ dHb (P 4 (P 1 l).toNatClampNeg) (aDay N x) = true
      · rw [if_pos c3] at h; exact absurd h (by decide)
      · refine ⟨c1, c2, fun e => ?_⟩
        cases c4 : dHb (P 4 (P 1 l).toNatClampNeg) (aDay N x) with
        | false => rfl
        | true => exact absurd ⟨e, c4⟩ c3
    · rw [if_pos c2] at h; exact absurd h (by decide)
theorem aRoom_z {l r : Nat} (h : aRoom N Q P l r = 0) : P 2 l ≠ nI r ∧ Q 4 r = Q 1 (Q 6 l).toNatClampNeg := by
  unfold aRoom at h
  by_cases c1 : P 2 l = nI r
  · rw [if_pos c1] at h; exact absurd h (by decide)
  · rw [if_neg c1] at h
    by_cases c2 : Q 4 r = Q 1 (Q 6 l).toNatClampNeg
    · exact ⟨c1, c2⟩
    · rw [if_pos c2] at h; exact absurd h (by decide)
theorem aExch_sym {l o : Nat} : aExch N Q P o l = aExch N Q P l o := by
  unfold aExch
  by_cases c1 : Q 5 l = Q 5 o
  · rw [if_neg (show ¬ (Q 5 o ≠ Q 5 l) from fun q => q c1.symm), if_neg (show ¬ (Q 5 l ≠ Q 5 o) from fun q => q c1)]
    by_cases c2 : P 0 l = P 0 o
    · rw [if_pos (show P 0 o = P 0 l from c2.symm), if_pos c2]
    · rw [if_neg (show ¬ P 0 o = P 0 l from fun q => c2 q.symm), if_neg c2]
      simp only [Or.comm (a := P 1 o = -1), Or.comm (a := dHb (P 4 (P 1 o).toNatClampNeg) (aDay N (P 0 l)) = true), Or.comm (a := aThird N P 1 o l = true), Or.comm (a := aThird N P 2 o l = true)]
  · rw [if_pos (show Q 5 o ≠ Q 5 l from fun q => c1 q.symm), if_pos (show Q 5 l ≠ Q 5 o from c1)]
theorem dWP_1 (hN : dWN N) (h : dWP N P) {k t : Nat} (hk : k < N 6) (ht : t < N 3) (e : P 1 k = nI t) : (P 1 k).toNatClampNeg = t := by
  have := dWN_b hN
  rw [e, d_cl (by omega)]
/-! the changes -/
theorem kV_teach (hN : dWN N) (h : kV N Q P) {l t : Nat} {w : Int32} (hl : l < N 6) (ht : t < N 3) (h2 : aAway N P t (P 0 l) = false) (h3 : w = 0 → aQual Q t l = true) : kV N Q (pT P l (nI t) w) := by
  have hB := dWN_b hN
  obtain ⟨a1, a2, a3, a4⟩ := h
  have e0 : ∀ k, pT P l (nI t) w 0 k = P 0 k := fun k => pT_o (by omega) (by omega) k
  have e2 : ∀ k, pT P l (nI t) w 2 k = P 2 k := fun k => pT_o (by omega) (by omega) k
  have e4 : ∀ k, pT P l (nI t) w 4 k = P 4 k := fun k => pT_o (by omega) (by omega) k
  refine ⟨fun i k hi hk hik e => ?_, fun k hk => ?_, fun k u hk hu e => ?_, fun k u hk hu e e3 => ?_⟩
  · rw [e0, e0] at e; exact a1 i k hi hk hik e
  · rw [e2]; exact a2 k hk
  · rw [aAway_c (P := P) e4, e0]
    rw [pT_1] at e
    by_cases c : k = l
    · rw [if_pos c] at e
      rw [nI_eq (by omega) (by omega)] at e
      rw [c, ← e]; exact h2
    · rw [if_neg c] at e; exact a3 k u hk hu e
  · rw [pT_1] at e
    rw [pT_3] at e3
    by_cases c : k = l
    · rw [if_pos c] at e e3
      rw [nI_eq (by omega) (by omega)] at e
      rw [c, ← e]; exact h3 e3
    · rw [if_neg c] at e e3; exact a4 k u hk hu e e3
theorem kV_open (hN : dWN N) (h : kV N Q P) (l : Nat) : kV N Q (pT P l (-1) 0) := by
  have hB := dWN_b hN
  obtain ⟨a1, a2, a3, a4⟩ := h
  have e0 : ∀ k, pT P l (-1) 0 0 k = P 0 k := fun k => pT_o (by omega) (by omega) k
  have e2 : ∀ k, pT P l (-1) 0 2 k = P 2 k := fun k => pT_o (by omega) (by omega) k
  have e4 : ∀ k, pT P l (-1) 0 4 k = P 4 k := fun k => pT_o (by omega) (by omega) k
  refine ⟨fun i k hi hk hik e => ?_, fun k hk => ?_, fun k u hk hu e => ?_, fun k u hk hu e e3 => ?_⟩
  · rw [e0, e0] at e; exact a1 i k hi hk hik e
  · rw [e2]; exact a2 k hk
  · rw [aAway_c (P := P) e4, e0]
    rw [pT_1] at e
    by_cases c : k = l
    · rw [if_pos c] at e; exact absurd e.symm (d_ne1 (by omega))
    · rw [if_neg c] at e; exact a3 k u hk hu e
  · rw [pT_1] at e
    rw [pT_3] at e3
    by_cases c : k = l
    · rw [if_pos c] at e; exact absurd e.symm (d_ne1 (by omega))
    · rw [if_neg c] at e e3; exact a4 k u hk hu e e3
theorem aAway_t (hN : dWN N) {t : Nat} (ht : t < N 3) {l : Nat} (e : P 1 l = nI t) {x : Int32} (h : dHb (P 4 (P 1 l).toNatClampNeg) (aDay N x) = false) : aAway N P t x = false := by
  have hB := dWN_b hN
  rw [e, d_cl (by omega)] at h
  exact h
theorem kV_swap (hN : dWN N) (h : kV N Q P) {l o : Nat} (hl : l < N 6) (ho : o < N 6) (hx : aExch N Q P l o = 0) : kV N Q (pW P l o) := by
  have hB := dWN_b hN
  obtain ⟨b1, b2, b3, b4, b5, b6⟩ := aExch_z hx
  obtain ⟨a1, a2, a3, a4⟩ := h
  have e0 : ∀ k, pW P l o 0 k = if k = o then P 0 l else if k = l then P 0 o else P 0 k := by
    intro k; unfold pW pS; simp
  have e1 : ∀ a k, a ≠ 0 → pW P l o a k = P a k := by
    intro a k ha; unfold pW pS; simp [ha]
  refine ⟨fun i k hi hk hik e => ?_, fun k hk => ?_, fun k u hk hu e => ?_, fun k u hk hu e e3 => ?_⟩
  · rw [e0, e0] at e
    by_cases i1 : i = o
    · rw [if_pos i1] at e
      rw [if_neg (fun q => hik (i1.trans q.symm))] at e
      by_cases k1 : k = l
      · rw [if_pos k1] at e; exact absurd e b2
      · rw [if_neg k1] at e
        rw [i1, ← b1]; exact a1 l k hl hk (fun q => k1 q.symm) e
    · rw [if_neg i1] at e
      by_cases i2 : i = l
      · rw [if_pos i2] at e
        by_cases k1 : k = o
        · rw [if_pos k1] at e; exact absurd e.symm b2
        · rw [if_neg k1, if_neg (fun q => hik (i2.trans q.symm))] at e
          rw [i2, b1]; exact a1 o k ho hk (fun q => k1 q.symm) e
      · rw [if_neg i2] at e
        by_cases k1 : k = o
        · rw [if_pos k1] at e
          rw [k1, ← b1]; exact a1 i l hi hl i2 e
        · rw [if_neg k1] at e
          by_cases k2 : k = l
          · rw [if_pos k2] at e
            rw [k2, b1]; exact a1 i o hi ho i1 e
          · rw [if_neg k2] at e; exact a1 i k hi hk hik e
  · rw [e1 2 k (by omega)]; exact a2 k hk
  · rw [aAway_c (P := P) (fun k => e1 4 k (by omega)), e0]
    rw [e1 1 k (by omega)] at e
    by_cases k1 : k = o
    · rw [if_pos k1]; rw [k1] at e; exact aAway_t hN hu e b6
    · rw [if_neg k1]
      by_cases k2 : k = l
      · rw [if_pos k2]; rw [k2] at e; exact aAway_t hN hu e b5
      · rw [if_neg k2]; exact a3 k u hk hu e
  · rw [e1 1 k (by omega)] at e
    rw [e1 3 k (by omega)] at e3
    exact a4 k u hk hu e e3
theorem aAtC_none (hN : dWN N) {x v : Int32} (h : aAtC N Q P x v = -1) : ∀ k, k < N 6 → P 0 k = x → Q 5 k ≠ v := by
  have hB := dWN_b hN
  intro k hk h0 h1
  unfold aAtC at h
  have := (dFind_none (by omega)).mp h k hk
  simp [h0, h1] at this
theorem kV_slot (hN : dWN N) (h : kV N Q P) {l x : Nat} (hl : l < N 6) (hx : aMove N Q P l (nI x) = 0) : kV N Q (pS P 0 l (nI x)) := by
  have hB := dWN_b hN
  obtain ⟨b1, b2, b3⟩ := aMove_z hx
  have b4 := aAtC_none hN b2
  obtain ⟨a1, a2, a3, a4⟩ := h
  have e0 : ∀ k, pS P 0 l (nI x) 0 k = if k = l then nI x else P 0 k := by
    intro k; unfold pS; simp
  have e1 : ∀ a k, a ≠ 0 → pS P 0 l (nI x) a k = P a k := fun a k ha => pS_ne (fun q => ha q.1)
  refine ⟨fun i k hi hk hik e => ?_, fun k hk => ?_, fun k u hk hu e => ?_, fun k u hk hu e e3 => ?_⟩
  · rw [e0, e0] at e
    by_cases i1 : i = l
    · rw [if_pos i1, if_neg (fun q => hik (i1.trans q.symm))] at e
      rw [i1]; exact fun q => b4 k hk e.symm q.symm
    · rw [if_neg i1] at e
      by_cases k1 : k = l
      · rw [if_pos k1] at e
        rw [k1]; exact b4 i hi e
      · rw [if_neg k1] at e; exact a1 i k hi hk hik e
  · rw [e1 2 k (by omega)]; exact a2 k hk
  · rw [aAway_c (P := P) (fun k => e1 4 k (by omega)), e0]
    rw [e1 1 k (by omega)] at e
    by_cases k1 : k = l
    · rw [if_pos k1]; rw [k1] at e; exact aAway_t hN hu e (b3 (by rw [e]; exact d_ne1 (by omega)))
    · rw [if_neg k1]; exact a3 k u hk hu e
  · rw [e1 1 k (by omega)] at e
    rw [e1 3 k (by omega)] at e3
    exact a4 k u hk hu e e3
theorem kV_room (hN : dWN N) (h : kV N Q P) {l r : Nat} (hr : r < N 4) (hx : aRoom N Q P l r = 0) : kV N Q (pS P 2 l (nI r)) := by
  have hB := dWN_b hN
  obtain ⟨b1, b2⟩ := aRoom_z hx
  obtain ⟨a1, a2, a3, a4⟩ := h
  have e1 : ∀ a k, a ≠ 2 → pS P 2 l (nI r) a k = P a k := fun a k ha => pS_ne (fun q => ha q.1)
  refine ⟨fun i k hi hk hik e => ?_, fun k hk => ?_, fun k u hk hu e => ?_, fun k u hk hu e e3 => ?_⟩
  · rw [e1 0 i (by omega), e1 0 k (by omega)] at e; exact a1 i k hi hk hik e
  · by_cases c : k = l
    · rw [c, pS_eq, d_cl (by omega)]; exact b2
    · rw [pS_ne (fun q => c q.2)]; exact a2 k hk
  · rw [aAway_c (P := P) (fun k => e1 4 k (by omega)), e1 0 k (by omega)]
    rw [e1 1 k (by omega)] at e
    exact a3 k u hk hu e
  · rw [e1 1 k (by omega)] at e
    rw [e1 3 k (by omega)] at e3
    exact a4 k u hk hu e e3
theorem kV_first (hN : dWN N) (hQ : dWQ N Q) (h : kV0 N Q) : kV N Q (pF N Q P (N 6)) := by
  have hB := dWN_b hN
  obtain ⟨a1, a2, a3⟩ := h
  have e0 : ∀ k, k < N 6 → pF N Q P (N 6) 0 k = Q 7 k := fun k hk => by unfold pF; rw [if_pos hk]; simp
  have e1 : ∀ k, k < N 6 → pF N Q P (N 6) 1 k = aFT N Q P k := fun k hk => by unfold pF; rw [if_pos hk]; simp
  have e2 : ∀ k, k < N 6 → pF N Q P (N 6) 2 k = Q 9 k := fun k hk => by unfold pF; rw [if_pos hk]; simp
  have eT : ∀ k u, k < N 6 → u < N 3 → aFT N Q P k = nI u → Q 8 k = nI u ∧ aAway N P u (Q 7 k) = false := by
    intro k u hk hu e
    unfold aFT at e
    by_cases c : aAway N P (Q 8 k).toNatClampNeg (Q 7 k) = true
    · rw [if_pos c] at e; exact absurd e.symm (d_ne1 (by omega))
    · rw [if_neg c] at e
      rw [e, d_cl (by omega)] at c
      exact ⟨e, by simpa using c⟩
  refine ⟨fun i k hi hk hik e => ?_, fun k hk => ?_, fun k u hk hu e => ?_, fun k u hk hu e e3 => ?_⟩
  · rw [e0 i hi, e0 k hk] at e; exact a1 i k hi hk hik e
  · rw [e2 k hk]; exact a2 k hk
  · rw [aAway_c (P := P) (fun k => pF_4 (N 6) k), e0 k hk]
    rw [e1 k hk] at e
    exact (eT k u hk hu e).2
  · rw [e1 k hk] at e
    exact a3 k u hk hu (eT k u hk hu e).1
theorem kV_start (hN : dWN N) (h : kV0 N Q) : kV N Q (dP0 Q) := by
  obtain ⟨a1, a2, a3⟩ := h
  refine ⟨fun i k hi hk hik e => a1 i k hi hk hik e, fun k hk => a2 k hk, fun k u hk hu e => ?_, fun k u hk hu e _ => a3 k u hk hu e⟩
  show dHb 0 _ = false
  unfold dHb
  simp
theorem kV_absent (hW : dW N Q P) (h : kV N Q P) {t d : Nat} (ht : t < N 3) (hd : d < N 0) (is : Bool) : kV N Q (pA N P t d is) := by
  have hN := hW.1
  have hB := dWN_b hN
  have hday : ∀ k, k < N 6 → ∃ j, j < N 0 ∧ aDay N (P 0 k) = nI j := by
    intro k hk
    obtain ⟨x, hx, e⟩ := hW.2.2.1 k hk
    have := d_day hN hx
    exact ⟨x / N 1, this.2, by rw [e]; exact this.1⟩
  obtain ⟨a1, a2, a3, a4⟩ := h
  unfold pA
  cases is with
  | false =>
    rw [if_neg (by decide)]
    generalize ev : P 4 t &&& ((1 <<< (nI d &&& 31)) ^^^ (-1)) = v
    have e1 : ∀ a k, a ≠ 4 → pS P 4 t v a k = P a k := fun a k ha => pS_ne (fun q => ha q.1)
    refine ⟨fun i k hi hk hik e => ?_, fun k hk => ?_, fun k u hk hu e => ?_, fun k u hk hu e e3 => ?_⟩
    · rw [e1 0 i (by omega), e1 0 k (by omega)] at e; exact a1 i k hi hk hik e
    · rw [e1 2 k (by omega)]; exact a2 k hk
    · rw [e1 1 k (by omega)] at e
      rw [e1 0 k (by omega)]
      have h3 := a3 k u hk hu e
      unfold aAway at h3 ⊢
      obtain ⟨j, hj, ej⟩ := hday k hk
      rw [ej] at h3 ⊢
      by_cases c : u = t
      · rw [c, pS_eq, ← ev, b_hb _ (by omega), b_and]
        rw [c, b_hb _ (by omega)] at h3
        rw [h3]; rfl
      · rw [pS_ne (fun q => c q.2)]; exact h3
    · rw [e1 1 k (by omega)] at e
      rw [e1 3 k (by omega)] at e3
      exact a4 k u hk hu e e3
  | true =>
    rw [if_pos rfl]
    generalize ev : P 4 t ||| (1 <<< (nI d &&& 31)) = v
    generalize ec : (fun j => decide (j < N 6) && aAb N P t d j) = cc
    have e0 : ∀ k, pO (pS P 4 t v) cc 0 k = P 0 k := fun k => by rw [pO_0]; exact pS_ne (by omega)
    have e2 : ∀ k, pO (pS P 4 t v) cc 2 k = P 2 k := fun k => by rw [pO_2]; exact pS_ne (by omega)
    have e1 : ∀ k u, u < N 3 → pO (pS P 4 t v) cc 1 k = nI u → cc k = false ∧ P 1 k = nI u := by
      intro k u hu e
      unfold pO at e
      by_cases c : cc k = true
      · simp only [c] at e
        exact absurd e.symm (d_ne1 (by omega))
      · have c : cc k = false := by simpa using c
        simp only [c] at e
        simp at e
        rw [pS_ne (by omega)] at e
        exact ⟨c, e⟩
    have e3 : ∀ k, cc k = false → pO (pS P 4 t v) cc 3 k = P 3 k := by
      intro k c
      unfold pO
      simp [c]
      exact pS_ne (by omega)
    have e4 : ∀ k, pO (pS P 4 t v) cc 4 k = pS P 4 t v 4 k := by
      intro k; unfold pO; simp
    refine ⟨fun i k hi hk hik e => ?_, fun k hk => ?_, fun k u hk hu e => ?_, fun k u hk hu e q3 => ?_⟩
    · rw [e0, e0] at e; exact a1 i k hi hk hik e
    · rw [e2]; exact a2 k hk
    · obtain ⟨c1, c2⟩ := e1 k u hu e
      have h3 := a3 k u hk hu c2
      unfold aAway at h3 ⊢
      obtain ⟨j, hj, ej⟩ := hday k hk
      rw [e4, e0, ej]
      rw [ej] at h3
      by_cases c : u = t
      · rw [c, pS_eq, ← ev, b_hb _ (by omega), b_or, b_bit d (by omega) (by omega)]
        rw [c, b_hb _ (by omega)] at h3
        rw [h3]
        have : j ≠ d := by
          intro q
          rw [← ec] at c1
          simp only [hk, decide_true, Bool.true_and] at c1
          unfold aAb at c1
          rw [c2, c, ej, q] at c1
          simp at c1
        simp [this]
      · rw [pS_ne (fun q => c q.2)]; exact h3
    · obtain ⟨c1, c2⟩ := e1 k u hu e
      rw [e3 k c1] at q3
      exact a4 k u hk hu c2 q3
end E2
