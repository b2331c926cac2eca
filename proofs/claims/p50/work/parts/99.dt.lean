section D29
/-! ===== the reference's chain ===== -/
variable {N : Nat → Nat} {Q P : Nat → Nat → Int32} {s : ga_M}
/-! the best of what was seen, one set after another -/
def gBr : Option (Int32 × List Nat) → Int32 → Prop
  | none, _ => True
  | some q, x => x < q.1
def gBst (ld : Nat → Int32) (S : List Nat → Prop) (a b : Option (Int32 × List Nat)) : Prop :=
  (b = a ∧ ∀ c, S c → ¬ gBr a (ld (gLa c))) ∨ ∃ c, S c ∧ gBr a (ld (gLa c)) ∧ b = some (ld (gLa c), c) ∧ ∀ c', S c' → ld (gLa c) < ld (gLa c') ∨ (ld (gLa c) = ld (gLa c') ∧ gL c c')
theorem gBst_add {ld : Nat → Int32} {S1 S2 : List Nat → Prop} {a b d : Option (Int32 × List Nat)} (h1 : gBst ld S1 a b) (h2 : gBst ld S2 b d) (hL : ∀ c1 c2, S1 c1 → S2 c2 → gL c1 c2) : gBst ld (fun c => S1 c ∨ S2 c) a d := by
  rcases h1 with ⟨rfl, h1⟩ | ⟨c1, k1, k2, rfl, k3⟩
  · rcases h2 with ⟨rfl, h2⟩ | ⟨c2, j1, j2, rfl, j3⟩
    · exact Or.inl ⟨rfl, fun c hc => hc.elim (h1 c) (h2 c)⟩
    · refine Or.inr ⟨c2, Or.inr j1, j2, rfl, fun c' hc' => hc'.elim (fun hc => ?_) (j3 c')⟩
      have := h1 c' hc
      cases b with
      | none => exact absurd trivial this
      | some q =>
        left
        have h5 : ld (gLa c2) < q.1 := j2
        have h6 : ¬ ld (gLa c') < q.1 := this
        rw [Int32.lt_iff_toInt_lt] at h5 h6 ⊢
        omega
  · rcases h2 with ⟨rfl, h2⟩ | ⟨c2, j1, j2, rfl, j3⟩
    · refine Or.inr ⟨c1, Or.inl k1, k2, rfl, fun c' hc' => hc'.elim (k3 c') (fun hc => ?_)⟩
      have h6 : ¬ ld (gLa c') < ld (gLa c1) := h2 c' hc
      by_cases e : ld (gLa c1) = ld (gLa c')
      · exact Or.inr ⟨e, hL c1 c' k1 hc⟩
      · left
        have e2 : (ld (gLa c1)).toInt ≠ (ld (gLa c')).toInt := fun h => e (Int32.toInt_inj.mp h)
        rw [Int32.lt_iff_toInt_lt] at h6 ⊢
        omega
    · have h5 : ld (gLa c2) < ld (gLa c1) := j2
      refine Or.inr ⟨c2, Or.inr j1, ?_, rfl, fun c' hc' => hc'.elim (fun hc => ?_) (j3 c')⟩
      · cases a with
        | none => trivial
        | some q =>
          have h6 : ld (gLa c1) < q.1 := k2
          show ld (gLa c2) < q.1
          rw [Int32.lt_iff_toInt_lt] at h5 h6 ⊢
          omega
      · left
        rcases k3 c' hc with h6 | ⟨h6, _⟩
        · rw [Int32.lt_iff_toInt_lt] at h5 h6 ⊢; omega
        · rw [← h6]; exact h5
theorem gBst_eq {ld : Nat → Int32} {S1 S2 : List Nat → Prop} {a b : Option (Int32 × List Nat)} (h : ∀ c, S1 c ↔ S2 c) (h1 : gBst ld S1 a b) : gBst ld S2 a b := by
  have : S1 = S2 := funext (fun c => propext (h c))
  rw [← this]; exact h1
theorem gBst_no {ld : Nat → Int32} {S : List Nat → Prop} {a : Option (Int32 × List Nat)} (h : ∀ c, ¬ S c) : gBst ld S a a := Or.inl ⟨rfl, fun c hc => absurd hc (h c)⟩
theorem gW_C {n : Nat} {E : Nat → Nat → Bool} {F C C' : Nat → Bool} {c : List Nat} (h : ∀ t, t < n → C t = C' t) : gW n E F C c ↔ gW n E F C' c := by
  cases c with
  | nil => exact Iff.rfl
  | cons t c =>
    rw [gW_iff, gW_iff]
    constructor
    · rintro ⟨h1, h2, h3⟩; exact ⟨h1, by rw [← h t h1]; exact h2, h3⟩
    · rintro ⟨h1, h2, h3⟩; exact ⟨h1, by rw [h t h1]; exact h2, h3⟩
/-- the state of the search -/
def gSt (L : Nat) (s : ga_M) : Option (Int32 × List Nat) → Prop
  | none => s 72 9 = 0
  | some q => s 72 9 = nI L ∧ s 72 10 = q.1 ∧ q.2.length = L ∧ ∀ j, j < L → s 79 j = nI (q.2.getD j 0)
def gFr (v : Nat) (s s2 : ga_M) : Prop := (∀ a, a ≠ 72 → a ≠ 78 → a ≠ 79 → s2 a = s a) ∧ (∀ f, f ≠ 9 → f ≠ 10 → s2 72 f = s 72 f) ∧ ∀ j, j < v → s2 78 j = s 78 j
theorem gFr_trans {v v2 : Nat} {s s2 s3 : ga_M} (h : gFr v s s2) (h2 : gFr v2 s2 s3) (hv : v ≤ v2) : gFr v s s3 :=
  ⟨fun a a1 a2 a3 => (h2.1 a a1 a2 a3).trans (h.1 a a1 a2 a3), fun f f1 f2 => (h2.2.1 f f1 f2).trans (h.2.1 f f1 f2), fun j hj => (h2.2.2 j (by omega)).trans (h.2.2 j hj)⟩
theorem gFr_refl (v : Nat) (s : ga_M) : gFr v s s := ⟨fun _ _ _ _ => rfl, fun _ _ _ => rfl, fun _ _ => rfl⟩
theorem gFr_dM {v : Nat} {s s2 : ga_M} (h : gFr v s s2) (hM : dM N Q P s) : dM N Q P s2 := dM_cong (h.1 73 (by decide) (by decide) (by decide)) (h.1 75 (by decide) (by decide) (by decide)) hM
def gWay (w : List Nat) (s : ga_M) : Prop := ∀ j, j < w.length → s 78 j = nI (w.getD j 0) ∧ w.getD j 0 < 8
/-- what a sequence behind w has to be -/
def gV (N : Nat → Nat) (Q P : Nat → Nat → Int32) (x : Int32) (l : Nat) (w : List Nat) (L : Nat) (c : List Nat) : Prop :=
  gW (N 3) (gE N Q P x) (gF N Q P x) (gC N Q P x l) c ∧ c.Nodup ∧ (∀ u, u ∈ c → u ∉ w) ∧ w.length + c.length = L
def gSk (N : Nat → Nat) (Q P : Nat → Nat → Int32) (x : Int32) (l : Nat) (w : List Nat) (L k : Nat) (c : List Nat) : Prop := ∃ t c', t < k ∧ c = w ++ t :: c' ∧ gV N Q P x l w L (t :: c')
def gSx (N : Nat → Nat) (Q P : Nat → Nat → Int32) (x : Int32) (l : Nat) (w : List Nat) (L k : Nat) (c : List Nat) : Prop := ∃ c', c = w ++ k :: c' ∧ gV N Q P x l w L (k :: c')
theorem gSk_step {x : Int32} {l L k : Nat} {w c : List Nat} : (gSk N Q P x l w L k c ∨ gSx N Q P x l w L k c) ↔ gSk N Q P x l w L (k + 1) c := by
  constructor
  · rintro (⟨t, c', h1, h2⟩ | ⟨c', h⟩)
    · exact ⟨t, c', by omega, h2⟩
    · exact ⟨k, c', by omega, h⟩
  · rintro ⟨t, c', h1, h2⟩
    by_cases e : t = k
    · subst e; exact Or.inr ⟨c', h2⟩
    · exact Or.inl ⟨t, c', by omega, h2⟩
theorem gSk_gL {x : Int32} {l L k : Nat} {w c1 c2 : List Nat} (h1 : gSk N Q P x l w L k c1) (h2 : gSx N Q P x l w L k c2) : gL c1 c2 := by
  obtain ⟨t, c', ht, rfl, _⟩ := h1
  obtain ⟨c'', rfl, _⟩ := h2
  exact gL_pre w (Or.inl ht)
/-- a lesson of a teacher in a slot is the only one -/
theorem gIts (hW : dW N Q P) {x t : Nat} (ht : t < N 3) : (aAt N P 1 (nI x) (nI t) = -1 ∧ (∀ u, gE N Q P (nI x) t u = false)) ∨ ∃ j, j < N 6 ∧ aAt N P 1 (nI x) (nI t) = nI j ∧ ((aTaught P j = false ∧ ∀ u, gE N Q P (nI x) t u = false) ∨ (aTaught P j = true ∧ ∀ u, gE N Q P (nI x) t u = gC N Q P (nI x) j u)) := by
  have hN := hW.1
  have hB := dWN_b hN
  have hn1 : nI t ≠ -1 := d_ne1 (by omega)
  unfold aAt
  rcases dFind_spec (fun k => decide (P 0 k = nI x) && decide (P 1 k = nI t)) (N 6) with ⟨h1, h2⟩ | ⟨j, h1, h2, h3, h4⟩
  · refine Or.inl ⟨h1, fun u => ?_⟩
    unfold gE
    rw [decide_eq_false_iff_not]
    rintro ⟨k, hk, a1, a2, _⟩
    have := h2 k hk
    simp [a1, a2] at this
  · refine Or.inr ⟨j, h1, h2, ?_⟩
    simp only [Bool.and_eq_true, decide_eq_true_eq] at h3
    have un : ∀ k, k < N 6 → P 0 k = nI x → P 1 k = nI t → k = j := fun k hk a1 a2 => dWP_t hW.2.2 hk h1 (by rw [a1, h3.1]) (by rw [a2]; exact hn1) (by rw [a2, h3.2])
    have e : aTaught P j = decide (P 3 j = 0) := by
      unfold aTaught; rw [h3.2, decide_eq_false hn1]; simp
    rw [e]
    by_cases c : P 3 j = 0
    · rw [decide_eq_true c]
      refine Or.inr ⟨rfl, fun u => ?_⟩
      unfold gE
      cases hg : gC N Q P (nI x) j u with
      | true => rw [decide_eq_true_eq]; exact ⟨j, h1, h3.1, h3.2, c, hg⟩
      | false =>
        rw [decide_eq_false_iff_not]
        rintro ⟨k, hk, a1, a2, _, a4⟩
        have := un k hk a1 a2
        subst this
        rw [hg] at a4; cases a4
    · rw [decide_eq_false c]
      refine Or.inl ⟨rfl, fun u => ?_⟩
      unfold gE
      rw [decide_eq_false_iff_not]
      rintro ⟨k, hk, a1, a2, a3, _⟩
      have := un k hk a1 a2
      subst this
      exact c a3
def gLev (N : Nat → Nat) (Q P : Nat → Nat → Int32) (v : Nat) (go : Int32 → Int32 → Int32 → Int32 → ga_M → Option ga_M) : Prop :=
  ∀ (l x L : Nat) (w : List Nat) (s : ga_M) (a : Option (Int32 × List Nat)), dM N Q P s → l < N 6 → x < dSl N → w.length = v → v < L → L ≤ 4 → gWay w s → gSt L s a →
  ∃ s2 b, go (nI l) (nI x) (nI v) (nI L) s = some s2 ∧ gFr v s s2 ∧ gSt L s2 b ∧ gBst (gLd N Q P) (fun c => ∃ c', c = w ++ c' ∧ gV N Q P (nI x) l w L c') a b
theorem gSk_all {x : Int32} {l L : Nat} {w : List Nat} (hv : w.length < L) {c : List Nat} : gSk N Q P x l w L (N 3) c ↔ ∃ c', c = w ++ c' ∧ gV N Q P x l w L c' := by
  constructor
  · rintro ⟨t, c', _, h2, h3⟩; exact ⟨t :: c', h2, h3⟩
  · rintro ⟨c', h2, h3⟩
    cases c' with
    | nil => have := h3.2.2.2; simp at this; omega
    | cons t c' => exact ⟨t, c', (gW_iff.mp h3.1).1, h2, h3⟩
theorem gLa_1 (w : List Nat) (t : Nat) : gLa (w ++ [t]) = t := by rw [gLa_app (by simp)]; rfl
end D29
