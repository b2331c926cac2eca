section D29
/-! ===== the reference's chain ===== -/
variable {N : Nat → Nat} {Q P : Nat → Nat → Int32} {s : ga_M}
/-! the best of what was seen, one set after another -/
def gBr : Option (Int32 × List Nat) → Int32 → Prop
  | none, _ => True
  | some q, x => x < q.1
def gBst (ld : Nat → Int32) (S : List Nat → Prop) (a b : Option (Int32 × List Nat)) : Prop :=
  (b = a ∧ ∀ c, S c → ¬ gBr a (ld (gLa c))) ∨ ∃ c, S c ∧ gBr a (ld (gLa c)) ∧ b = some (ld (gLa c), c) ∧ ∀ c', S c' → ld (gLa c) < ld (gLa c') ∨ (ld (gLa c) = ld (gLa c') ∧ gL c c')
theorem gBst_add {ld : Nat → Int32} {S1 S2 : List Nat → Prop} {a b d : Option (Int32 × List Nat)} (h1 : gBst ld S1 a b) (h2 : gBst ld S2 b d) (hL : ∀ c1 c2, S1 c1 → S2 c2 → gL c1 c2) : gBst ld (fun c => S1 c ∨ S2 c) a d := by
  rcases h1 with ⟨rfl, h1⟩ | ⟨c1, k1, k2, rfl, k3⟩
  · rcases h2 with ⟨rfl, h2⟩ | ⟨c2, j1, j2, rfl, j3⟩
    · exact Or.inl ⟨rfl, fun c hc => hc.elim (h1 c) (h2 c)⟩
    · refine Or.inr ⟨c2, Or.inr j1, j2, rfl, fun c' hc' => hc'.elim (fun hc => ?_) (j3 c')⟩
      have := h1 c' hc
      cases b with
      | none => exact absurd trivial this
      | some q =>
        left
        have h5 : ld (gLa c2) < q.1 := j2
        have h6 : ¬ ld (gLa c') < q.1 := this
        rw [Int32.lt_iff_toInt_lt] at h5 h6 ⊢
        omega
  · rcases h2 with ⟨rfl, h2⟩ | ⟨c2, j1, j2, rfl, j3⟩
    · refine Or.inr ⟨c1, Or.inl k1, k2, rfl, fun c' hc' => hc'.elim (k3 c') (fun hc => ?_)⟩
      have h6 : ¬ ld (gLa c') < ld (gLa c1) := h2 c' hc
      by_cases e : ld (gLa c1) = ld (gLa c')
      · exact Or.inr ⟨e, hL c1 c' k1 hc⟩
      · left
        have e2 : (ld (gLa c1)).toInt ≠ (ld (gLa c')).toInt := fun h => e (Int32.toInt_inj.mp h)
        rw [Int32.lt_iff_toInt_lt] at h6 ⊢
        omega
    · have h5 : ld (gLa c2) < ld (gLa c1) := j2
      refine Or.inr ⟨c2, Or.inr j1, ?_, rfl, fun c' hc' => hc'.elim (fun hc => ?_) (j3 c')⟩
      · cases a with
        | none => trivial
        | some q =>
          have h6 : ld (gLa c1) < q.1 := k2
          show ld (gLa c2) < q.1
          rw [Int32.lt_iff_toInt_lt] at h5 h6 ⊢
          omega
      · left
        rcases k3 c' hc with h6 | ⟨h6, _⟩
        · rw [Int32.lt_iff_toInt_lt] at h5 h6 ⊢; omega
        · rw [← h6]; exact h5
theorem gBst_eq {ld : Nat → Int32} {S1 S2 : List Nat → Prop} {a b : Option (Int32 × List Nat)} (h : ∀ c, S1 c ↔ S2 c) (h1 : gBst ld S1 a b) : gBst ld S2 a b := by
  have : S1 = S2 := funext (fun c => propext (h c))
  rw [← this]; exact h1
theorem gBst_no {ld : Nat → Int32} {S : List Nat → Prop} {a : Option (Int32 × List Nat)} (h : ∀ c, ¬ S c) : gBst ld S a a := Or.inl ⟨rfl, fun c hc => absurd hc (h c)⟩
theorem gW_C {n : Nat} {E : Nat → Nat → Bool} {F C C' : Nat → Bool} {c : List Nat} (h : ∀ t, t < n → C t = C' t) : gW n E F C c ↔ gW n E F C' c := by
  cases c with
  | nil => exact Iff.rfl
  | cons t c =>
    rw [gW_iff, gW_iff]
    constructor
    · rintro ⟨h1, h2, h3⟩; exact ⟨h1, by rw [← h t h1]; exact h2, h3⟩
    · rintro ⟨h1, h2, h3⟩; exact ⟨h1, by rw [h t h1]; exact h2, h3⟩
/-- the state of the search -/
def gSt (L : Nat) (s : ga_M) : Option (Int32 × List Nat) → Prop
  | none => s 72 9 = 0
  | some q => s 72 9 = nI L ∧ s 72 10 = q.1 ∧ q.2.length = L ∧ ∀ j, j < L → s 79 j = nI (q.2.getD j 0)
def gFr (v : Nat) (s s2 : ga_M) : Prop := (∀ a, a ≠ 72 → a ≠ 78 → a ≠ 79 → s2 a = s a) ∧ (∀ f, f ≠ 9 → f ≠ 10 → s2 72 f = s 72 f) ∧ ∀ j, j < v → s2 78 j = s 78 j
theorem gFr_trans {v v2 : Nat} {s s2 s3 : ga_M} (h : gFr v s s2) (h2 : gFr v2 s2 s3) (hv : v ≤ v2) : gFr v s s3 :=
  ⟨fun a a1 a2 a3 => (h2.1 a a1 a2 a3).trans (h.1 a a1 a2 a3), fun f f1 f2 => (h2.2.1 f f1 f2).trans (h.2.1 f f1 f2), fun j hj => (h2.2.2 j (by omega)).trans (h.2.2 j hj)⟩
theorem gFr_refl (v : Nat) (s : ga_M) : gFr v s s := ⟨fun _ _ _ _ => rfl, fun _ _ _ => rfl, fun _ _ => rfl⟩
theorem gFr_dM {v : Nat} {s s2 : ga_M} (h : gFr v s s2) (hM : dM N Q P s) : dM N Q P s2 := dM_cong (h.1 73 (by decide) (by decide) (by decide)) (h.1 75 (by decide) (by decide) (by decide)) hM
def gWay (w : List Nat) (s : ga_M) : Prop := ∀ j, j < w.length → s 78 j = nI (w.getD j 0) ∧ w.getD j 0 < 8
theorem dm_onWay {w : List Nat} (hw : gWay w s) (hl : w.length ≤ 4) {t : Nat} (ht : t < 8) : f_X12_isOnWay (nI t) (nI w.length) s = some (aB (decide (t ∈ w))) := by
  rw [fe_X12_isOnWay]; unfold fb_X12_isOnWay
  have key : ∀ r k n, k + r = w.length → r < n → ∀ a : Int32, ((a = 0 ∧ ∀ j, j < k → w.getD j 0 ≠ t) ∨ (a = 1 ∧ t ∈ w)) → f_X12_isOnWay_h5 n (nI t) (nI w.length) a (nI k) s = some (aB (decide (t ∈ w))) := by
    intro r
    induction r with
    | zero =>
      intro k n hk hn a ha
      obtain ⟨n, rfl⟩ : ∃ j, n = j + 1 := ⟨n - 1, by omega⟩
      unfold f_X12_isOnWay_h5
      rw [if_pos (nI_le (show w.length ≤ k by omega) (by omega))]
      rcases ha with ⟨rfl, h2⟩ | ⟨rfl, h2⟩
      · have : t ∉ w := by
          intro hm
          obtain ⟨j, hj, e⟩ := List.mem_iff_getElem.mp hm
          refine h2 j (by omega) ?_
          rw [List.getD_eq_getElem?_getD, List.getElem?_eq_getElem hj, Option.getD_some, e]
        rw [decide_eq_false this]; rfl
      · rw [decide_eq_true h2]; rfl
    | succ r ih =>
      intro k n hk hn a ha
      obtain ⟨n, rfl⟩ : ∃ j, n = j + 1 := ⟨n - 1, by omega⟩
      unfold f_X12_isOnWay_h5
      dsimp only
      rw [if_neg (nI_ge (show k < w.length by omega) (by omega)), d_r1]
      rcases ha with ⟨rfl, h2⟩ | ⟨rfl, h2⟩
      · have hk2 := hw k (by omega)
        rw [if_pos rfl, if_neg (nI_in (c := k) (N := 4) (by omega) (by omega)), d_cl (show k < 2147483648 by omega), hk2.1]
        by_cases e : w.getD k 0 = t
        · rw [e, if_pos rfl]
          refine ih (k + 1) n (by omega) (by omega) 1 (Or.inr ⟨rfl, ?_⟩)
          rw [List.getD_eq_getElem?_getD, List.getElem?_eq_getElem (show k < w.length by omega), Option.getD_some] at e
          rw [← e]
          exact List.getElem_mem _
        · rw [if_neg (fun h => e ((nI_eq (by omega) (by omega)).mp h))]
          refine ih (k + 1) n (by omega) (by omega) 0 (Or.inl ⟨rfl, fun j hj => ?_⟩)
          by_cases ej : j = k
          · subst ej; exact e
          · exact h2 j (by omega)
      · rw [if_neg (by decide)]
        exact ih (k + 1) n (by omega) (by omega) 1 (Or.inr ⟨rfl, h2⟩)
  exact key w.length 0 ga_fuel (by omega) (d_fuel (by omega)) 0 (Or.inl ⟨rfl, fun j hj => by omega⟩)
/-- what a sequence behind w has to be -/
def gV (N : Nat → Nat) (Q P : Nat → Nat → Int32) (x : Int32) (l : Nat) (w : List Nat) (L : Nat) (c : List Nat) : Prop :=
  gW (N 3) (gE N Q P x) (gF N Q P x) (gC N Q P x l) c ∧ c.Nodup ∧ (∀ u, u ∈ c → u ∉ w) ∧ w.length + c.length = L
def gSk (N : Nat → Nat) (Q P : Nat → Nat → Int32) (x : Int32) (l : Nat) (w : List Nat) (L k : Nat) (c : List Nat) : Prop := ∃ t c', t < k ∧ c = w ++ t :: c' ∧ gV N Q P x l w L (t :: c')
def gSx (N : Nat → Nat) (Q P : Nat → Nat → Int32) (x : Int32) (l : Nat) (w : List Nat) (L k : Nat) (c : List Nat) : Prop := ∃ c', c = w ++ k :: c' ∧ gV N Q P x l w L (k :: c')
theorem gSk_step {x : Int32} {l L k : Nat} {w c : List Nat} : (gSk N Q P x l w L k c ∨ gSx N Q P x l w L k c) ↔ gSk N Q P x l w L (k + 1) c := by
  constructor
  · rintro (⟨t, c', h1, h2⟩ | ⟨c', h⟩)
    · exact ⟨t, c', by omega, h2⟩
    · exact ⟨k, c', by omega, h⟩
  · rintro ⟨t, c', h1, h2⟩
    by_cases e : t = k
    · subst e; exact Or.inr ⟨c', h2⟩
    · exact Or.inl ⟨t, c', by omega, h2⟩
theorem gSk_gL {x : Int32} {l L k : Nat} {w c1 c2 : List Nat} (h1 : gSk N Q P x l w L k c1) (h2 : gSx N Q P x l w L k c2) : gL c1 c2 := by
  obtain ⟨t, c', ht, rfl, _⟩ := h1
  obtain ⟨c'', rfl, _⟩ := h2
  exact gL_pre w (Or.inl ht)
/-- a lesson of a teacher in a slot is the only one -/
theorem gIts (hW : dW N Q P) {x t : Nat} (ht : t < N 3) : (aAt N P 1 (nI x) (nI t) = -1 ∧ (∀ u, gE N Q P (nI x) t u = false)) ∨ ∃ j, j < N 6 ∧ aAt N P 1 (nI x) (nI t) = nI j ∧ ((aTaught P j = false ∧ ∀ u, gE N Q P (nI x) t u = false) ∨ (aTaught P j = true ∧ ∀ u, gE N Q P (nI x) t u = gC N Q P (nI x) j u)) := by
  have hN := hW.1
  have hB := dWN_b hN
  have hn1 : nI t ≠ -1 := d_ne1 (by omega)
  unfold aAt
  rcases dFind_spec (fun k => decide (P 0 k = nI x) && decide (P 1 k = nI t)) (N 6) with ⟨h1, h2⟩ | ⟨j, h1, h2, h3, h4⟩
  · refine Or.inl ⟨h1, fun u => ?_⟩
    unfold gE
    rw [decide_eq_false_iff_not]
    rintro ⟨k, hk, a1, a2, _⟩
    have := h2 k hk
    simp [a1, a2] at this
  · refine Or.inr ⟨j, h1, h2, ?_⟩
    simp only [Bool.and_eq_true, decide_eq_true_eq] at h3
    have un : ∀ k, k < N 6 → P 0 k = nI x → P 1 k = nI t → k = j := fun k hk a1 a2 => dWP_t hW.2.2 hk h1 (by rw [a1, h3.1]) (by rw [a2]; exact hn1) (by rw [a2, h3.2])
    have e : aTaught P j = decide (P 3 j = 0) := by
      unfold aTaught; rw [h3.2, decide_eq_false hn1]; simp
    rw [e]
    by_cases c : P 3 j = 0
    · rw [decide_eq_true c]
      refine Or.inr ⟨rfl, fun u => ?_⟩
      unfold gE
      cases hg : gC N Q P (nI x) j u with
      | true => rw [decide_eq_true_eq]; exact ⟨j, h1, h3.1, h3.2, c, hg⟩
      | false =>
        rw [decide_eq_false_iff_not]
        rintro ⟨k, hk, a1, a2, _, a4⟩
        have := un k hk a1 a2
        subst this
        rw [hg] at a4; cases a4
    · rw [decide_eq_false c]
      refine Or.inl ⟨rfl, fun u => ?_⟩
      unfold gE
      rw [decide_eq_false_iff_not]
      rintro ⟨k, hk, a1, a2, a3, _⟩
      have := un k hk a1 a2
      subst this
      exact c a3
def gLev (N : Nat → Nat) (Q P : Nat → Nat → Int32) (v : Nat) (go : Int32 → Int32 → Int32 → Int32 → ga_M → Option ga_M) : Prop :=
  ∀ (l x L : Nat) (w : List Nat) (s : ga_M) (a : Option (Int32 × List Nat)), dM N Q P s → l < N 6 → x < dSl N → w.length = v → v < L → L ≤ 4 → gWay w s → gSt L s a →
  ∃ s2 b, go (nI l) (nI x) (nI v) (nI L) s = some s2 ∧ gFr v s s2 ∧ gSt L s2 b ∧ gBst (gLd N Q P) (fun c => ∃ c', c = w ++ c' ∧ gV N Q P (nI x) l w L c') a b
theorem gSk_all {x : Int32} {l L : Nat} {w : List Nat} (hv : w.length < L) {c : List Nat} : gSk N Q P x l w L (N 3) c ↔ ∃ c', c = w ++ c' ∧ gV N Q P x l w L c' := by
  constructor
  · rintro ⟨t, c', _, h2, h3⟩; exact ⟨t :: c', h2, h3⟩
  · rintro ⟨c', h2, h3⟩
    cases c' with
    | nil => have := h3.2.2.2; simp at this; omega
    | cons t c' => exact ⟨t, c', (gW_iff.mp h3.1).1, h2, h3⟩
theorem gLa_1 (w : List Nat) (t : Nat) : gLa (w ++ [t]) = t := by rw [gLa_app (by simp)]; rfl
theorem dm_copy3 (go3 : Int32 → Int32 → Int32 → Int32 → Int32 → ga_M → Option ga_M) {L : Nat} (hL : L ≤ 4) (l1 l2 l3 l5 : Int32) (s : ga_M) : ∃ s2, f_X12_goes3_h167 go3 ga_fuel l1 l2 l3 (nI L) l5 0 s = go3 l1 l2 l3 (nI L) (l5 + 1) s2 ∧ (∀ a, a ≠ 79 → s2 a = s a) ∧ ∀ j, j < L → s2 79 j = s 78 j := by
  have key : ∀ r k n (s1 : ga_M), k + r = L → r < n → (∀ a, a ≠ 79 → s1 a = s a) → (∀ j, j < k → s1 79 j = s 78 j) → ∃ s2, f_X12_goes3_h167 go3 n l1 l2 l3 (nI L) l5 (nI k) s1 = go3 l1 l2 l3 (nI L) (l5 + 1) s2 ∧ (∀ a, a ≠ 79 → s2 a = s a) ∧ ∀ j, j < L → s2 79 j = s 78 j := by
    intro r
    induction r with
    | zero =>
      intro k n s1 hk hn h1 h2
      obtain ⟨n, rfl⟩ : ∃ j, n = j + 1 := ⟨n - 1, by omega⟩
      unfold f_X12_goes3_h167
      rw [if_pos (nI_le (show L ≤ k by omega) (by omega))]
      exact ⟨s1, rfl, h1, fun j hj => h2 j (by omega)⟩
    | succ r ih =>
      intro k n s1 hk hn h1 h2
      obtain ⟨n, rfl⟩ : ∃ j, n = j + 1 := ⟨n - 1, by omega⟩
      unfold f_X12_goes3_h167
      dsimp only
      have hi := nI_in (c := k) (N := 4) (by omega) (by omega)
      rw [if_neg (nI_ge (show k < L by omega) (by omega)), if_neg hi, if_neg hi, d_r1, d_cl (show k < 2147483648 by omega)]
      refine ih (k + 1) n _ (by omega) (by omega) (fun a ha => by rw [d_up_ne ha]; exact h1 a ha) (fun j hj => ?_)
      by_cases e : j = k
      · subst e; rw [d_up_eq, h1 78 (by decide)]
      · rw [d_up_nk (fun q => e q.2)]; exact h2 j (by omega)
  exact key L 0 ga_fuel s (by omega) (d_fuel (by omega)) (fun _ _ => rfl) (fun j hj => by omega)
theorem dm_goes3 (hW : dW N Q P) : gLev N Q P 3 f_X12_goes3 := by
  have hN := hW.1
  have hB := dWN_b hN
  intro l x L w s a hM hl hx hv hvL hL hw hst
  rw [fe_X12_goes3]; unfold fb_X12_goes3
  have key : ∀ r k n (s0 : ga_M) (b : Option (Int32 × List Nat)), k + r = N 3 → r < n → gFr 3 s s0 → gSt L s0 b → gWay w s0 → gBst (gLd N Q P) (gSk N Q P (nI x) l w L k) a b →
      ∃ s2 b2, f_X12_goes3_h3 n (nI l) (nI x) (nI 3) (nI L) (nI k) s0 = some s2 ∧ gFr 3 s s2 ∧ gSt L s2 b2 ∧ gBst (gLd N Q P) (gSk N Q P (nI x) l w L (N 3)) a b2 := by
    intro r
    induction r with
    | zero =>
      intro k n s0 b hk hn hf hst hway hbst
      obtain ⟨n, rfl⟩ : ∃ j, n = j + 1 := ⟨n - 1, by omega⟩
      have : k = N 3 := by omega
      subst this
      have hM0 := gFr_dM hf hM
      unfold f_X12_goes3_h3
      rw [dmN hM0 (by decide), if_pos (nI_le (Nat.le_refl _) (by omega))]
      exact ⟨s0, b, rfl, hf, hst, hbst⟩
    | succ r ih =>
      intro k n s0 b hk hn hf hst hway hbst
      obtain ⟨n, rfl⟩ : ∃ j, n = j + 1 := ⟨n - 1, by omega⟩
      have hM0 := gFr_dM hf hM
      have ht : k < N 3 := by omega
      have skip : ∀ s1, gFr 3 s s1 → gSt L s1 b → gWay w s1 → (∀ c', ¬ gV N Q P (nI x) l w L (k :: c')) → ∃ s2 b2, f_X12_goes3_h3 n (nI l) (nI x) (nI 3) (nI L) (nI (k + 1)) s1 = some s2 ∧ gFr 3 s s2 ∧ gSt L s2 b2 ∧ gBst (gLd N Q P) (gSk N Q P (nI x) l w L (N 3)) a b2 :=
        fun s1 hf1 hst1 hway1 hno => ih (k + 1) n s1 b (by omega) (by omega) hf1 hst1 hway1 (gBst_eq (fun c => gSk_step) (gBst_add hbst (gBst_no (fun c ⟨c', _, hc⟩ => hno c' hc)) (fun c1 c2 => gSk_gL)))
      unfold f_X12_goes3_h3
      dsimp only
      rw [dmN hM0 (by decide), if_neg (nI_ge ht (by omega)), dm_isAbsent hN hM0 ht, Option.bind_some, d_r1]
      cases ha : aAway N P k (nI x) with
      | true =>
        rw [if_neg (show ¬ aB true = 0 by decide)]
        refine skip s0 hf hst hway (fun c' hc => ?_)
        have := (gW_iff.mp hc.1).2.1
        unfold gC at this; rw [ha] at this; cases this
      | false =>
      rw [if_pos (show aB false = 0 from rfl), dm_isQualified hN hM0 ht hl, Option.bind_some]
      cases hq : aQual Q k l with
      | false =>
        rw [if_pos (show aB false = 0 from rfl)]
        refine skip s0 hf hst hway (fun c' hc => ?_)
        have := (gW_iff.mp hc.1).2.1
        unfold gC at this; rw [hq, Bool.and_false] at this; cases this
      | true =>
      have hgc : gC N Q P (nI x) l k = true := by unfold gC; rw [ha, hq]; rfl
      rw [if_neg (show ¬ aB true = 0 by decide), show nI 3 = nI w.length by rw [hv], dm_onWay hway (by omega) (show k < 8 by omega), Option.bind_some]
      by_cases hnw : k ∈ w
      · rw [decide_eq_true hnw, if_neg (show ¬ aB true = 0 by decide), hv]
        exact skip s0 hf hst hway (fun c' hc => hc.2.2.1 k List.mem_cons_self hnw)
      · rw [decide_eq_false hnw, if_pos (show aB false = 0 from rfl), hv, if_neg (nI_in (c := 3) (N := 4) (by omega) (by omega)), d_cl (show 3 < 2147483648 by omega)]
        generalize hs1 : ga_up s0 78 3 (nI k) = s1
        have hf1 : gFr 3 s s1 := by
          refine gFr_trans hf ⟨fun c c1 c2 c3 => ?_, fun f f1 f2 => ?_, fun j hj => ?_⟩ (Nat.le_refl _)
          · rw [← hs1]; exact d_up_ne c2
          · rw [← hs1]; exact d_up_nk (fun q => by omega)
          · rw [← hs1]; exact d_up_nk (fun q => by omega)
        have hM1 := gFr_dM hf1 hM
        have hst1 : gSt L s1 b := by
          cases b with
          | none => show s1 72 9 = 0; rw [← hs1, d_up_nk (fun q => by omega)]; exact hst
          | some q =>
            refine ⟨?_, ?_, hst.2.2.1, fun j hj => ?_⟩
            · rw [← hs1, d_up_nk (fun q => by omega)]; exact hst.1
            · rw [← hs1, d_up_nk (fun q => by omega)]; exact hst.2.1
            · rw [← hs1, d_up_nk (fun q => by omega)]; exact hst.2.2.2 j hj
        have hway : gWay w s1 := fun j hj => by rw [← hs1, d_up_nk (fun q => by omega)]; exact hway j hj
        have h1k : nI k ≠ -1 := d_ne1 (by omega)
        rw [dm_ofTeacher2 hN hM1, Option.bind_some, nI_1]
        by_cases hleaf : L = 3 + 1
        · rw [if_pos (nI_le (show L ≤ 3 + 1 by omega) (by omega)), dm_loadOf hN hM1 h1k, Option.bind_some]
          by_cases ei : aAt N P 1 (nI x) (nI k) = -1
          · rw [if_pos ei, d_a13, if_neg (nI_in (c := 13 + k) (N := 235) (by omega) (by omega)), d_cl (show 13 + k < 2147483648 by omega), dm13 hM1 ht]
            by_cases el : Q 2 k ≤ aLoad N Q P (nI k)
            · rw [if_pos el]
              refine skip s1 hf1 hst1 hway (fun c' hc => ?_)
              have h3 := hc.2.2.2
              have : c' = [] := List.length_eq_zero_iff.mp (by simp at h3; omega)
              subst this
              have := hc.1.2.2
              unfold gF at this
              rw [Bool.and_eq_true, decide_eq_true_eq, decide_eq_true_eq] at this
              exact Int32.not_lt.mpr el this.2
            · rw [if_neg el]
              have hgf : gF N Q P (nI x) k = true := by unfold gF; rw [decide_eq_true ei, decide_eq_true (Int32.not_le.mp el)]; rfl
              have hgv : gV N Q P (nI x) l w L [k] := ⟨⟨ht, hgc, hgf⟩, by simp, fun u hu => by rw [List.mem_singleton.mp hu]; exact hnw, by simp; omega⟩
              have hone : ∀ c', gV N Q P (nI x) l w L (k :: c') → c' = [] := fun c' hc => by
                have h3 := hc.2.2.2
                exact List.length_eq_zero_iff.mp (by simp at h3; omega)
              -- taken
              have take : gBr b (aLoad N Q P (nI k)) → ∃ s2 b2, f_X12_goes3_h167 (f_X12_goes3_h3 n) ga_fuel (nI l) (nI x) (nI 3) (nI L) (nI k) 0 (ga_up (ga_up s1 72 9 (nI L)) 72 10 (aLoad N Q P (nI k))) = some s2 ∧ gFr 3 s s2 ∧ gSt L s2 b2 ∧ gBst (gLd N Q P) (gSk N Q P (nI x) l w L (N 3)) a b2 := by
                intro hbr
                obtain ⟨s2, e1, e2, e3⟩ := dm_copy3 (f_X12_goes3_h3 n) hL (nI l) (nI x) (nI 3) (nI k) (ga_up (ga_up s1 72 9 (nI L)) 72 10 (aLoad N Q P (nI k)))
                rw [e1, d_r1]
                have hf2 : gFr 3 s s2 := by
                  refine gFr_trans hf1 ⟨fun c c1 c2 c3 => ?_, fun f f1 f2 => ?_, fun j hj => ?_⟩ (Nat.le_refl _)
                  · rw [e2 c c3, d_up_ne c1, d_up_ne c1]
                  · rw [e2 72 (by decide), d_up_nk (fun q => by omega), d_up_nk (fun q => by omega)]
                  · rw [e2 78 (by decide), d_up_ne (by decide), d_up_ne (by decide)]
                refine ih (k + 1) n s2 (some (aLoad N Q P (nI k), w ++ [k])) (by omega) (by omega) hf2 ⟨?_, ?_, by simp; omega, fun j hj => ?_⟩ (fun j hj => ?_) (gBst_eq (fun c => gSk_step) (gBst_add hbst (Or.inr ⟨w ++ [k], ⟨[], rfl, hgv⟩, by rw [gLa_1]; exact hbr, by rw [gLa_1]; rfl, fun c' hc' => ?_⟩) (fun c1 c2 => gSk_gL)))
                · rw [e2 72 (by decide), d_up_nk (fun q => by omega), d_up_eq]
                · rw [e2 72 (by decide), d_up_eq]
                · rw [e3 j hj, d_up_ne (by decide), d_up_ne (by decide)]
                  by_cases e : j = w.length
                  · subst e
                    rw [← hs1, hv, d_up_eq, ← hv]
                    have : ∀ z, (w ++ [k]).getD w.length z = k := fun z => by simp
                    exact congrArg nI (this _).symm
                  · have : (w ++ [k]).getD j 0 = w.getD j 0 := by
                      rw [List.getD_eq_getElem?_getD, List.getD_eq_getElem?_getD, List.getElem?_append_left (by omega)]
                    show _ = nI ((w ++ [k]).getD j 0)
                    rw [this]
                    exact (hway j (by omega)).1
                · rw [e2 78 (by decide), d_up_ne (by decide), d_up_ne (by decide)]
                  exact hway j hj
                · obtain ⟨c'', rfl, hc''⟩ := hc'
                  rw [hone c'' hc'']
                  refine Or.inr ⟨rfl, gL_pre w ?_⟩
                  exact Or.inr ⟨rfl, trivial⟩
              cases b with
              | none =>
                have h9 : s1 72 9 = 0 := hst1
                rw [if_neg (show ¬ s1 72 9 = nI L by rw [h9]; exact fun e => nI_ne0 (show 0 < L by omega) (by omega) e.symm)]
                exact take trivial
              | some q =>
                rw [if_pos hst1.1, hst1.2.1]
                by_cases eb : aLoad N Q P (nI k) < q.1
                · rw [if_pos eb]; exact take eb
                · rw [if_neg eb]
                  refine ih (k + 1) n s1 _ (by omega) (by omega) hf1 hst1 hway (gBst_eq (fun c => gSk_step) (gBst_add hbst (Or.inl ⟨rfl, fun c hc => ?_⟩) (fun c1 c2 => gSk_gL)))
                  obtain ⟨c', rfl, hc'⟩ := hc
                  rw [hone c' hc', gLa_1]
                  exact eb
          · rw [if_neg ei]
            refine skip s1 hf1 hst1 hway (fun c' hc => ?_)
            have h3 := hc.2.2.2
            have : c' = [] := List.length_eq_zero_iff.mp (by simp at h3; omega)
            subst this
            have := hc.1.2.2
            unfold gF at this
            rw [Bool.and_eq_true, decide_eq_true_eq, decide_eq_true_eq] at this
            exact ei this.1
        · exfalso; omega
  obtain ⟨s2, b2, h1, h2, h3, h4⟩ := key (N 3) 0 ga_fuel s a (by omega) (d_fuel (by omega)) (gFr_refl 3 s) hst hw (gBst_no (fun c ⟨t, _, ht, _⟩ => by omega))
  exact ⟨s2, b2, h1, h2, h3, gBst_eq (fun c => gSk_all (by omega)) h4⟩
theorem dm_copy2 (go3 : Int32 → Int32 → Int32 → Int32 → Int32 → ga_M → Option ga_M) {L : Nat} (hL : L ≤ 4) (l1 l2 l3 l5 : Int32) (s : ga_M) : ∃ s2, f_X12_goes2_h167 go3 ga_fuel l1 l2 l3 (nI L) l5 0 s = go3 l1 l2 l3 (nI L) (l5 + 1) s2 ∧ (∀ a, a ≠ 79 → s2 a = s a) ∧ ∀ j, j < L → s2 79 j = s 78 j := by
  have key : ∀ r k n (s1 : ga_M), k + r = L → r < n → (∀ a, a ≠ 79 → s1 a = s a) → (∀ j, j < k → s1 79 j = s 78 j) → ∃ s2, f_X12_goes2_h167 go3 n l1 l2 l3 (nI L) l5 (nI k) s1 = go3 l1 l2 l3 (nI L) (l5 + 1) s2 ∧ (∀ a, a ≠ 79 → s2 a = s a) ∧ ∀ j, j < L → s2 79 j = s 78 j := by
    intro r
    induction r with
    | zero =>
      intro k n s1 hk hn h1 h2
      obtain ⟨n, rfl⟩ : ∃ j, n = j + 1 := ⟨n - 1, by omega⟩
      unfold f_X12_goes2_h167
      rw [if_pos (nI_le (show L ≤ k by omega) (by omega))]
      exact ⟨s1, rfl, h1, fun j hj => h2 j (by omega)⟩
    | succ r ih =>
      intro k n s1 hk hn h1 h2
      obtain ⟨n, rfl⟩ : ∃ j, n = j + 1 := ⟨n - 1, by omega⟩
      unfold f_X12_goes2_h167
      dsimp only
      have hi := nI_in (c := k) (N := 4) (by omega) (by omega)
      rw [if_neg (nI_ge (show k < L by omega) (by omega)), if_neg hi, if_neg hi, d_r1, d_cl (show k < 2147483648 by omega)]
      refine ih (k + 1) n _ (by omega) (by omega) (fun a ha => by rw [d_up_ne ha]; exact h1 a ha) (fun j hj => ?_)
      by_cases e : j = k
      · subst e; rw [d_up_eq, h1 78 (by decide)]
      · rw [d_up_nk (fun q => e q.2)]; exact h2 j (by omega)
  exact key L 0 ga_fuel s (by omega) (d_fuel (by omega)) (fun _ _ => rfl) (fun j hj => by omega)
theorem dm_goes2 (hW : dW N Q P) (hgo : gLev N Q P 3 (f_X12_goes3)) : gLev N Q P 2 f_X12_goes2 := by
  have hN := hW.1
  have hB := dWN_b hN
  intro l x L w s a hM hl hx hv hvL hL hw hst
  rw [fe_X12_goes2]; unfold fb_X12_goes2
  have key : ∀ r k n (s0 : ga_M) (b : Option (Int32 × List Nat)), k + r = N 3 → r < n → gFr 2 s s0 → gSt L s0 b → gWay w s0 → gBst (gLd N Q P) (gSk N Q P (nI x) l w L k) a b →
      ∃ s2 b2, f_X12_goes2_h3 n (nI l) (nI x) (nI 2) (nI L) (nI k) s0 = some s2 ∧ gFr 2 s s2 ∧ gSt L s2 b2 ∧ gBst (gLd N Q P) (gSk N Q P (nI x) l w L (N 3)) a b2 := by
    intro r
    induction r with
    | zero =>
      intro k n s0 b hk hn hf hst hway hbst
      obtain ⟨n, rfl⟩ : ∃ j, n = j + 1 := ⟨n - 1, by omega⟩
      have : k = N 3 := by omega
      subst this
      have hM0 := gFr_dM hf hM
      unfold f_X12_goes2_h3
      rw [dmN hM0 (by decide), if_pos (nI_le (Nat.le_refl _) (by omega))]
      exact ⟨s0, b, rfl, hf, hst, hbst⟩
    | succ r ih =>
      intro k n s0 b hk hn hf hst hway hbst
      obtain ⟨n, rfl⟩ : ∃ j, n = j + 1 := ⟨n - 1, by omega⟩
      have hM0 := gFr_dM hf hM
      have ht : k < N 3 := by omega
      have skip : ∀ s1, gFr 2 s s1 → gSt L s1 b → gWay w s1 → (∀ c', ¬ gV N Q P (nI x) l w L (k :: c')) → ∃ s2 b2, f_X12_goes2_h3 n (nI l) (nI x) (nI 2) (nI L) (nI (k + 1)) s1 = some s2 ∧ gFr 2 s s2 ∧ gSt L s2 b2 ∧ gBst (gLd N Q P) (gSk N Q P (nI x) l w L (N 3)) a b2 :=
        fun s1 hf1 hst1 hway1 hno => ih (k + 1) n s1 b (by omega) (by omega) hf1 hst1 hway1 (gBst_eq (fun c => gSk_step) (gBst_add hbst (gBst_no (fun c ⟨c', _, hc⟩ => hno c' hc)) (fun c1 c2 => gSk_gL)))
      unfold f_X12_goes2_h3
      dsimp only
      rw [dmN hM0 (by decide), if_neg (nI_ge ht (by omega)), dm_isAbsent hN hM0 ht, Option.bind_some, d_r1]
      cases ha : aAway N P k (nI x) with
      | true =>
        rw [if_neg (show ¬ aB true = 0 by decide)]
        refine skip s0 hf hst hway (fun c' hc => ?_)
        have := (gW_iff.mp hc.1).2.1
        unfold gC at this; rw [ha] at this; cases this
      | false =>
      rw [if_pos (show aB false = 0 from rfl), dm_isQualified hN hM0 ht hl, Option.bind_some]
      cases hq : aQual Q k l with
      | false =>
        rw [if_pos (show aB false = 0 from rfl)]
        refine skip s0 hf hst hway (fun c' hc => ?_)
        have := (gW_iff.mp hc.1).2.1
        unfold gC at this; rw [hq, Bool.and_false] at this; cases this
      | true =>
      have hgc : gC N Q P (nI x) l k = true := by unfold gC; rw [ha, hq]; rfl
      rw [if_neg (show ¬ aB true = 0 by decide), show nI 2 = nI w.length by rw [hv], dm_onWay hway (by omega) (show k < 8 by omega), Option.bind_some]
      by_cases hnw : k ∈ w
      · rw [decide_eq_true hnw, if_neg (show ¬ aB true = 0 by decide), hv]
        exact skip s0 hf hst hway (fun c' hc => hc.2.2.1 k List.mem_cons_self hnw)
      · rw [decide_eq_false hnw, if_pos (show aB false = 0 from rfl), hv, if_neg (nI_in (c := 2) (N := 4) (by omega) (by omega)), d_cl (show 2 < 2147483648 by omega)]
        generalize hs1 : ga_up s0 78 2 (nI k) = s1
        have hf1 : gFr 2 s s1 := by
          refine gFr_trans hf ⟨fun c c1 c2 c3 => ?_, fun f f1 f2 => ?_, fun j hj => ?_⟩ (Nat.le_refl _)
          · rw [← hs1]; exact d_up_ne c2
          · rw [← hs1]; exact d_up_nk (fun q => by omega)
          · rw [← hs1]; exact d_up_nk (fun q => by omega)
        have hM1 := gFr_dM hf1 hM
        have hst1 : gSt L s1 b := by
          cases b with
          | none => show s1 72 9 = 0; rw [← hs1, d_up_nk (fun q => by omega)]; exact hst
          | some q =>
            refine ⟨?_, ?_, hst.2.2.1, fun j hj => ?_⟩
            · rw [← hs1, d_up_nk (fun q => by omega)]; exact hst.1
            · rw [← hs1, d_up_nk (fun q => by omega)]; exact hst.2.1
            · rw [← hs1, d_up_nk (fun q => by omega)]; exact hst.2.2.2 j hj
        have hway : gWay w s1 := fun j hj => by rw [← hs1, d_up_nk (fun q => by omega)]; exact hway j hj
        have h1k : nI k ≠ -1 := d_ne1 (by omega)
        rw [dm_ofTeacher2 hN hM1, Option.bind_some, nI_1]
        by_cases hleaf : L = 2 + 1
        · rw [if_pos (nI_le (show L ≤ 2 + 1 by omega) (by omega)), dm_loadOf hN hM1 h1k, Option.bind_some]
          by_cases ei : aAt N P 1 (nI x) (nI k) = -1
          · rw [if_pos ei, d_a13, if_neg (nI_in (c := 13 + k) (N := 235) (by omega) (by omega)), d_cl (show 13 + k < 2147483648 by omega), dm13 hM1 ht]
            by_cases el : Q 2 k ≤ aLoad N Q P (nI k)
            · rw [if_pos el]
              refine skip s1 hf1 hst1 hway (fun c' hc => ?_)
              have h3 := hc.2.2.2
              have : c' = [] := List.length_eq_zero_iff.mp (by simp at h3; omega)
              subst this
              have := hc.1.2.2
              unfold gF at this
              rw [Bool.and_eq_true, decide_eq_true_eq, decide_eq_true_eq] at this
              exact Int32.not_lt.mpr el this.2
            · rw [if_neg el]
              have hgf : gF N Q P (nI x) k = true := by unfold gF; rw [decide_eq_true ei, decide_eq_true (Int32.not_le.mp el)]; rfl
              have hgv : gV N Q P (nI x) l w L [k] := ⟨⟨ht, hgc, hgf⟩, by simp, fun u hu => by rw [List.mem_singleton.mp hu]; exact hnw, by simp; omega⟩
              have hone : ∀ c', gV N Q P (nI x) l w L (k :: c') → c' = [] := fun c' hc => by
                have h3 := hc.2.2.2
                exact List.length_eq_zero_iff.mp (by simp at h3; omega)
              -- taken
              have take : gBr b (aLoad N Q P (nI k)) → ∃ s2 b2, f_X12_goes2_h167 (f_X12_goes2_h3 n) ga_fuel (nI l) (nI x) (nI 2) (nI L) (nI k) 0 (ga_up (ga_up s1 72 9 (nI L)) 72 10 (aLoad N Q P (nI k))) = some s2 ∧ gFr 2 s s2 ∧ gSt L s2 b2 ∧ gBst (gLd N Q P) (gSk N Q P (nI x) l w L (N 3)) a b2 := by
                intro hbr
                obtain ⟨s2, e1, e2, e3⟩ := dm_copy2 (f_X12_goes2_h3 n) hL (nI l) (nI x) (nI 2) (nI k) (ga_up (ga_up s1 72 9 (nI L)) 72 10 (aLoad N Q P (nI k)))
                rw [e1, d_r1]
                have hf2 : gFr 2 s s2 := by
                  refine gFr_trans hf1 ⟨fun c c1 c2 c3 => ?_, fun f f1 f2 => ?_, fun j hj => ?_⟩ (Nat.le_refl _)
                  · rw [e2 c c3, d_up_ne c1, d_up_ne c1]
                  · rw [e2 72 (by decide), d_up_nk (fun q => by omega), d_up_nk (fun q => by omega)]
                  · rw [e2 78 (by decide), d_up_ne (by decide), d_up_ne (by decide)]
                refine ih (k + 1) n s2 (some (aLoad N Q P (nI k), w ++ [k])) (by omega) (by omega) hf2 ⟨?_, ?_, by simp; omega, fun j hj => ?_⟩ (fun j hj => ?_) (gBst_eq (fun c => gSk_step) (gBst_add hbst (Or.inr ⟨w ++ [k], ⟨[], rfl, hgv⟩, by rw [gLa_1]; exact hbr, by rw [gLa_1]; rfl, fun c' hc' => ?_⟩) (fun c1 c2 => gSk_gL)))
                · rw [e2 72 (by decide), d_up_nk (fun q => by omega), d_up_eq]
                · rw [e2 72 (by decide), d_up_eq]
                · rw [e3 j hj, d_up_ne (by decide), d_up_ne (by decide)]
                  by_cases e : j = w.length
                  · subst e
                    rw [← hs1, hv, d_up_eq, ← hv]
                    have : ∀ z, (w ++ [k]).getD w.length z = k := fun z => by simp
                    exact congrArg nI (this _).symm
                  · have : (w ++ [k]).getD j 0 = w.getD j 0 := by
                      rw [List.getD_eq_getElem?_getD, List.getD_eq_getElem?_getD, List.getElem?_append_left (by omega)]
                    show _ = nI ((w ++ [k]).getD j 0)
                    rw [this]
                    exact (hway j (by omega)).1
                · rw [e2 78 (by decide), d_up_ne (by decide), d_up_ne (by decide)]
                  exact hway j hj
                · obtain ⟨c'', rfl, hc''⟩ := hc'
                  rw [hone c'' hc'']
                  refine Or.inr ⟨rfl, gL_pre w ?_⟩
                  exact Or.inr ⟨rfl, trivial⟩
              cases b with
              | none =>
                have h9 : s1 72 9 = 0 := hst1
                rw [if_neg (show ¬ s1 72 9 = nI L by rw [h9]; exact fun e => nI_ne0 (show 0 < L by omega) (by omega) e.symm)]
                exact take trivial
              | some q =>
                rw [if_pos hst1.1, hst1.2.1]
                by_cases eb : aLoad N Q P (nI k) < q.1
                · rw [if_pos eb]; exact take eb
                · rw [if_neg eb]
                  refine ih (k + 1) n s1 _ (by omega) (by omega) hf1 hst1 hway (gBst_eq (fun c => gSk_step) (gBst_add hbst (Or.inl ⟨rfl, fun c hc => ?_⟩) (fun c1 c2 => gSk_gL)))
                  obtain ⟨c', rfl, hc'⟩ := hc
                  rw [hone c' hc', gLa_1]
                  exact eb
          · rw [if_neg ei]
            refine skip s1 hf1 hst1 hway (fun c' hc => ?_)
            have h3 := hc.2.2.2
            have : c' = [] := List.length_eq_zero_iff.mp (by simp at h3; omega)
            subst this
            have := hc.1.2.2
            unfold gF at this
            rw [Bool.and_eq_true, decide_eq_true_eq, decide_eq_true_eq] at this
            exact ei this.1
        · rw [if_neg (show ¬ nI L ≤ nI (2 + 1) from nI_ge (show 2 + 1 < L by omega) (by omega))]
          rcases gIts (x := x) hW ht with ⟨ei, eE⟩ | ⟨j, hj, ei, ⟨et, eE⟩ | ⟨et, eE⟩⟩
          · rw [ei, if_pos rfl]
            refine skip s1 hf1 hst1 hway (fun c' hc => ?_)
            have := (gW_iff.mp hc.1).2.2
            rcases this with ⟨h1, _⟩ | ⟨h1, h2⟩
            · have h3 := hc.2.2.2; rw [h1] at h3; simp at h3; omega
            · cases c' with
              | nil => exact h1 rfl
              | cons u c' => have := (gW_iff.mp h2).2.1; rw [eE] at this; cases this
          · rw [ei, if_neg (d_ne1 (show j < 2147483648 by omega)), dm_isTaught hN hM1 hj, Option.bind_some, et, if_pos (show aB false = 0 from rfl)]
            refine skip s1 hf1 hst1 hway (fun c' hc => ?_)
            have := (gW_iff.mp hc.1).2.2
            rcases this with ⟨h1, _⟩ | ⟨h1, h2⟩
            · have h3 := hc.2.2.2; rw [h1] at h3; simp at h3; omega
            · cases c' with
              | nil => exact h1 rfl
              | cons u c' => have := (gW_iff.mp h2).2.1; rw [eE] at this; cases this
          · rw [ei, if_neg (d_ne1 (show j < 2147483648 by omega)), dm_isTaught hN hM1 hj, Option.bind_some, et, if_neg (show ¬ aB true = 0 by decide)]
            have hway1 : gWay (w ++ [k]) s1 := by
              intro i hi
              simp at hi
              by_cases e : i = w.length
              · subst e
                rw [← hs1, hv, d_up_eq]
                have : ∀ z, (w ++ [k]).getD w.length z = k := fun z => by simp
                rw [← hv]
                exact ⟨congrArg nI (this _).symm, by rw [this]; omega⟩
              · have : (w ++ [k]).getD i 0 = w.getD i 0 := by
                  rw [List.getD_eq_getElem?_getD, List.getD_eq_getElem?_getD, List.getElem?_append_left (by omega)]
                rw [this]; exact hway i (by omega)
            obtain ⟨s2, b2, g1, g2, g3, g4⟩ := hgo j x L (w ++ [k]) s1 b hM1 hj hx (by simp [hv]) (by omega) hL hway1 hst1
            rw [show f_X12_goes3 (nI j) (nI x) (nI (2 + 1)) (nI L) s1 = some s2 from g1, Option.bind_some]
            have hf2 : gFr 2 s s2 := gFr_trans hf1 g2 (by omega)
            refine ih (k + 1) n s2 b2 (by omega) (by omega) hf2 g3 (fun i hi => by rw [g2.2.2 i (by omega)]; exact hway i hi) (gBst_eq (fun c => gSk_step) (gBst_add hbst (gBst_eq (fun c => ?_) g4) (fun c1 c2 => gSk_gL)))
            constructor
            · rintro ⟨c', rfl, a1, a2, a3, a4⟩
              have hne : c' ≠ [] := by intro e; rw [e] at a4; simp at a4; omega
              refine ⟨c', by simp, gW_iff.mpr ⟨ht, hgc, Or.inr ⟨hne, (gW_C (fun t _ => eE t)).mpr a1⟩⟩, List.nodup_cons.mpr ⟨fun hm => a3 k hm (by simp), a2⟩, fun u hu => ?_, by simp at a4 ⊢; omega⟩
              rcases List.mem_cons.mp hu with rfl | hu
              · exact hnw
              · exact fun hw => a3 u hu (List.mem_append_left _ hw)
            · rintro ⟨c', rfl, a1, a2, a3, a4⟩
              have hne : c' ≠ [] := by intro e; rw [e] at a4; simp at a4; omega
              refine ⟨c', by simp, ?_, (List.nodup_cons.mp a2).2, fun u hu hw => ?_, by simp at a4 ⊢; omega⟩
              · rcases (gW_iff.mp a1).2.2 with ⟨h1, _⟩ | ⟨_, h1⟩
                · exact absurd h1 hne
                · exact (gW_C (fun t _ => eE t)).mp h1
              · rcases List.mem_append.mp hw with hw | hw
                · exact a3 u (List.mem_cons_of_mem _ hu) hw
                · have e : u = k := by simpa using hw
                  subst e
                  exact (List.nodup_cons.mp a2).1 hu
  obtain ⟨s2, b2, h1, h2, h3, h4⟩ := key (N 3) 0 ga_fuel s a (by omega) (d_fuel (by omega)) (gFr_refl 2 s) hst hw (gBst_no (fun c ⟨t, _, ht, _⟩ => by omega))
  exact ⟨s2, b2, h1, h2, h3, gBst_eq (fun c => gSk_all (by omega)) h4⟩
theorem dm_copy1 (go3 : Int32 → Int32 → Int32 → Int32 → Int32 → ga_M → Option ga_M) {L : Nat} (hL : L ≤ 4) (l1 l2 l3 l5 : Int32) (s : ga_M) : ∃ s2, f_X12_goes1_h167 go3 ga_fuel l1 l2 l3 (nI L) l5 0 s = go3 l1 l2 l3 (nI L) (l5 + 1) s2 ∧ (∀ a, a ≠ 79 → s2 a = s a) ∧ ∀ j, j < L → s2 79 j = s 78 j := by
  have key : ∀ r k n (s1 : ga_M), k + r = L → r < n → (∀ a, a ≠ 79 → s1 a = s a) → (∀ j, j < k → s1 79 j = s 78 j) → ∃ s2, f_X12_goes1_h167 go3 n l1 l2 l3 (nI L) l5 (nI k) s1 = go3 l1 l2 l3 (nI L) (l5 + 1) s2 ∧ (∀ a, a ≠ 79 → s2 a = s a) ∧ ∀ j, j < L → s2 79 j = s 78 j := by
    intro r
    induction r with
    | zero =>
      intro k n s1 hk hn h1 h2
      obtain ⟨n, rfl⟩ : ∃ j, n = j + 1 := ⟨n - 1, by omega⟩
      unfold f_X12_goes1_h167
      rw [if_pos (nI_le (show L ≤ k by omega) (by omega))]
      exact ⟨s1, rfl, h1, fun j hj => h2 j (by omega)⟩
    | succ r ih =>
      intro k n s1 hk hn h1 h2
      obtain ⟨n, rfl⟩ : ∃ j, n = j + 1 := ⟨n - 1, by omega⟩
      unfold f_X12_goes1_h167
      dsimp only
      have hi := nI_in (c := k) (N := 4) (by omega) (by omega)
      rw [if_neg (nI_ge (show k < L by omega) (by omega)), if_neg hi, if_neg hi, d_r1, d_cl (show k < 2147483648 by omega)]
      refine ih (k + 1) n _ (by omega) (by omega) (fun a ha => by rw [d_up_ne ha]; exact h1 a ha) (fun j hj => ?_)
      by_cases e : j = k
      · subst e; rw [d_up_eq, h1 78 (by decide)]
      · rw [d_up_nk (fun q => e q.2)]; exact h2 j (by omega)
  exact key L 0 ga_fuel s (by omega) (d_fuel (by omega)) (fun _ _ => rfl) (fun j hj => by omega)
theorem dm_goes1 (hW : dW N Q P) (hgo : gLev N Q P 2 (f_X12_goes2)) : gLev N Q P 1 f_X12_goes1 := by
  have hN := hW.1
  have hB := dWN_b hN
  intro l x L w s a hM hl hx hv hvL hL hw hst
  rw [fe_X12_goes1]; unfold fb_X12_goes1
  have key : ∀ r k n (s0 : ga_M) (b : Option (Int32 × List Nat)), k + r = N 3 → r < n → gFr 1 s s0 → gSt L s0 b → gWay w s0 → gBst (gLd N Q P) (gSk N Q P (nI x) l w L k) a b →
      ∃ s2 b2, f_X12_goes1_h3 n (nI l) (nI x) (nI 1) (nI L) (nI k) s0 = some s2 ∧ gFr 1 s s2 ∧ gSt L s2 b2 ∧ gBst (gLd N Q P) (gSk N Q P (nI x) l w L (N 3)) a b2 := by
    intro r
    induction r with
    | zero =>
      intro k n s0 b hk hn hf hst hway hbst
      obtain ⟨n, rfl⟩ : ∃ j, n = j + 1 := ⟨n - 1, by omega⟩
      have : k = N 3 := by omega
      subst this
      have hM0 := gFr_dM hf hM
      unfold f_X12_goes1_h3
      rw [dmN hM0 (by decide), if_pos (nI_le (Nat.le_refl _) (by omega))]
      exact ⟨s0, b, rfl, hf, hst, hbst⟩
    | succ r ih =>
      intro k n s0 b hk hn hf hst hway hbst
      obtain ⟨n, rfl⟩ : ∃ j, n = j + 1 := ⟨n - 1, by omega⟩
      have hM0 := gFr_dM hf hM
      have ht : k < N 3 := by omega
      have skip : ∀ s1, gFr 1 s s1 → gSt L s1 b → gWay w s1 → (∀ c', ¬ gV N Q P (nI x) l w L (k :: c')) → ∃ s2 b2, f_X12_goes1_h3 n (nI l) (nI x) (nI 1) (nI L) (nI (k + 1)) s1 = some s2 ∧ gFr 1 s s2 ∧ gSt L s2 b2 ∧ gBst (gLd N Q P) (gSk N Q P (nI x) l w L (N 3)) a b2 :=
        fun s1 hf1 hst1 hway1 hno => ih (k + 1) n s1 b (by omega) (by omega) hf1 hst1 hway1 (gBst_eq (fun c => gSk_step) (gBst_add hbst (gBst_no (fun c ⟨c', _, hc⟩ => hno c' hc)) (fun c1 c2 => gSk_gL)))
      unfold f_X12_goes1_h3
      dsimp only
      rw [dmN hM0 (by decide), if_neg (nI_ge ht (by omega)), dm_isAbsent hN hM0 ht, Option.bind_some, d_r1]
      cases ha : aAway N P k (nI x) with
      | true =>
        rw [if_neg (show ¬ aB true = 0 by decide)]
        refine skip s0 hf hst hway (fun c' hc => ?_)
        have := (gW_iff.mp hc.1).2.1
        unfold gC at this; rw [ha] at this; cases this
      | false =>
      rw [if_pos (show aB false = 0 from rfl), dm_isQualified hN hM0 ht hl, Option.bind_some]
      cases hq : aQual Q k l with
      | false =>
        rw [if_pos (show aB false = 0 from rfl)]
        refine skip s0 hf hst hway (fun c' hc => ?_)
        have := (gW_iff.mp hc.1).2.1
        unfold gC at this; rw [hq, Bool.and_false] at this; cases this
      | true =>
      have hgc : gC N Q P (nI x) l k = true := by unfold gC; rw [ha, hq]; rfl
      rw [if_neg (show ¬ aB true = 0 by decide), show nI 1 = nI w.length by rw [hv], dm_onWay hway (by omega) (show k < 8 by omega), Option.bind_some]
      by_cases hnw : k ∈ w
      · rw [decide_eq_true hnw, if_neg (show ¬ aB true = 0 by decide), hv]
        exact skip s0 hf hst hway (fun c' hc => hc.2.2.1 k List.mem_cons_self hnw)
      · rw [decide_eq_false hnw, if_pos (show aB false = 0 from rfl), hv, if_neg (nI_in (c := 1) (N := 4) (by omega) (by omega)), d_cl (show 1 < 2147483648 by omega)]
        generalize hs1 : ga_up s0 78 1 (nI k) = s1
        have hf1 : gFr 1 s s1 := by
          refine gFr_trans hf ⟨fun c c1 c2 c3 => ?_, fun f f1 f2 => ?_, fun j hj => ?_⟩ (Nat.le_refl _)
          · rw [← hs1]; exact d_up_ne c2
          · rw [← hs1]; exact d_up_nk (fun q => by omega)
          · rw [← hs1]; exact d_up_nk (fun q => by omega)
        have hM1 := gFr_dM hf1 hM
        have hst1 : gSt L s1 b := by
          cases b with
          | none => show s1 72 9 = 0; rw [← hs1, d_up_nk (fun q => by omega)]; exact hst
          | some q =>
            refine ⟨?_, ?_, hst.2.2.1, fun j hj => ?_⟩
            · rw [← hs1, d_up_nk (fun q => by omega)]; exact hst.1
            · rw [← hs1, d_up_nk (fun q => by omega)]; exact hst.2.1
            · rw [← hs1, d_up_nk (fun q => by omega)]; exact hst.2.2.2 j hj
        have hway : gWay w s1 := fun j hj => by rw [← hs1, d_up_nk (fun q => by omega)]; exact hway j hj
        have h1k : nI k ≠ -1 := d_ne1 (by omega)
        rw [dm_ofTeacher2 hN hM1, Option.bind_some, nI_1]
        by_cases hleaf : L = 1 + 1
        · rw [if_pos (nI_le (show L ≤ 1 + 1 by omega) (by omega)), dm_loadOf hN hM1 h1k, Option.bind_some]
          by_cases ei : aAt N P 1 (nI x) (nI k) = -1
          · rw [if_pos ei, d_a13, if_neg (nI_in (c := 13 + k) (N := 235) (by omega) (by omega)), d_cl (show 13 + k < 2147483648 by omega), dm13 hM1 ht]
            by_cases el : Q 2 k ≤ aLoad N Q P (nI k)
            · rw [if_pos el]
              refine skip s1 hf1 hst1 hway (fun c' hc => ?_)
              have h3 := hc.2.2.2
              have : c' = [] := List.length_eq_zero_iff.mp (by simp at h3; omega)
              subst this
              have := hc.1.2.2
              unfold gF at this
              rw [Bool.and_eq_true, decide_eq_true_eq, decide_eq_true_eq] at this
              exact Int32.not_lt.mpr el this.2
            · rw [if_neg el]
              have hgf : gF N Q P (nI x) k = true := by unfold gF; rw [decide_eq_true ei, decide_eq_true (Int32.not_le.mp el)]; rfl
              have hgv : gV N Q P (nI x) l w L [k] := ⟨⟨ht, hgc, hgf⟩, by simp, fun u hu => by rw [List.mem_singleton.mp hu]; exact hnw, by simp; omega⟩
              have hone : ∀ c', gV N Q P (nI x) l w L (k :: c') → c' = [] := fun c' hc => by
                have h3 := hc.2.2.2
                exact List.length_eq_zero_iff.mp (by simp at h3; omega)
              -- taken
              have take : gBr b (aLoad N Q P (nI k)) → ∃ s2 b2, f_X12_goes1_h167 (f_X12_goes1_h3 n) ga_fuel (nI l) (nI x) (nI 1) (nI L) (nI k) 0 (ga_up (ga_up s1 72 9 (nI L)) 72 10 (aLoad N Q P (nI k))) = some s2 ∧ gFr 1 s s2 ∧ gSt L s2 b2 ∧ gBst (gLd N Q P) (gSk N Q P (nI x) l w L (N 3)) a b2 := by
                intro hbr
                obtain ⟨s2, e1, e2, e3⟩ := dm_copy1 (f_X12_goes1_h3 n) hL (nI l) (nI x) (nI 1) (nI k) (ga_up (ga_up s1 72 9 (nI L)) 72 10 (aLoad N Q P (nI k)))
                rw [e1, d_r1]
                have hf2 : gFr 1 s s2 := by
                  refine gFr_trans hf1 ⟨fun c c1 c2 c3 => ?_, fun f f1 f2 => ?_, fun j hj => ?_⟩ (Nat.le_refl _)
                  · rw [e2 c c3, d_up_ne c1, d_up_ne c1]
                  · rw [e2 72 (by decide), d_up_nk (fun q => by omega), d_up_nk (fun q => by omega)]
                  · rw [e2 78 (by decide), d_up_ne (by decide), d_up_ne (by decide)]
                refine ih (k + 1) n s2 (some (aLoad N Q P (nI k), w ++ [k])) (by omega) (by omega) hf2 ⟨?_, ?_, by simp; omega, fun j hj => ?_⟩ (fun j hj => ?_) (gBst_eq (fun c => gSk_step) (gBst_add hbst (Or.inr ⟨w ++ [k], ⟨[], rfl, hgv⟩, by rw [gLa_1]; exact hbr, by rw [gLa_1]; rfl, fun c' hc' => ?_⟩) (fun c1 c2 => gSk_gL)))
                · rw [e2 72 (by decide), d_up_nk (fun q => by omega), d_up_eq]
                · rw [e2 72 (by decide), d_up_eq]
                · rw [e3 j hj, d_up_ne (by decide), d_up_ne (by decide)]
                  by_cases e : j = w.length
                  · subst e
                    rw [← hs1, hv, d_up_eq, ← hv]
                    have : ∀ z, (w ++ [k]).getD w.length z = k := fun z => by simp
                    exact congrArg nI (this _).symm
                  · have : (w ++ [k]).getD j 0 = w.getD j 0 := by
                      rw [List.getD_eq_getElem?_getD, List.getD_eq_getElem?_getD, List.getElem?_append_left (by omega)]
                    show _ = nI ((w ++ [k]).getD j 0)
                    rw [this]
                    exact (hway j (by omega)).1
                · rw [e2 78 (by decide), d_up_ne (by decide), d_up_ne (by decide)]
                  exact hway j hj
                · obtain ⟨c'', rfl, hc''⟩ := hc'
                  rw [hone c'' hc'']
                  refine Or.inr ⟨rfl, gL_pre w ?_⟩
                  exact Or.inr ⟨rfl, trivial⟩
              cases b with
              | none =>
                have h9 : s1 72 9 = 0 := hst1
                rw [if_neg (show ¬ s1 72 9 = nI L by rw [h9]; exact fun e => nI_ne0 (show 0 < L by omega) (by omega) e.symm)]
                exact take trivial
              | some q =>
                rw [if_pos hst1.1, hst1.2.1]
                by_cases eb : aLoad N Q P (nI k) < q.1
                · rw [if_pos eb]; exact take eb
                · rw [if_neg eb]
                  refine ih (k + 1) n s1 _ (by omega) (by omega) hf1 hst1 hway (gBst_eq (fun c => gSk_step) (gBst_add hbst (Or.inl ⟨rfl, fun c hc => ?_⟩) (fun c1 c2 => gSk_gL)))
                  obtain ⟨c', rfl, hc'⟩ := hc
                  rw [hone c' hc', gLa_1]
                  exact eb
          · rw [if_neg ei]
            refine skip s1 hf1 hst1 hway (fun c' hc => ?_)
            have h3 := hc.2.2.2
            have : c' = [] := List.length_eq_zero_iff.mp (by simp at h3; omega)
            subst this
            have := hc.1.2.2
            unfold gF at this
            rw [Bool.and_eq_true, decide_eq_true_eq, decide_eq_true_eq] at this
            exact ei this.1
        · rw [if_neg (show ¬ nI L ≤ nI (1 + 1) from nI_ge (show 1 + 1 < L by omega) (by omega))]
          rcases gIts (x := x) hW ht with ⟨ei, eE⟩ | ⟨j, hj, ei, ⟨et, eE⟩ | ⟨et, eE⟩⟩
          · rw [ei, if_pos rfl]
            refine skip s1 hf1 hst1 hway (fun c' hc => ?_)
            have := (gW_iff.mp hc.1).2.2
            rcases this with ⟨h1, _⟩ | ⟨h1, h2⟩
            · have h3 := hc.2.2.2; rw [h1] at h3; simp at h3; omega
            · cases c' with
              | nil => exact h1 rfl
              | cons u c' => have := (gW_iff.mp h2).2.1; rw [eE] at this; cases this
          · rw [ei, if_neg (d_ne1 (show j < 2147483648 by omega)), dm_isTaught hN hM1 hj, Option.bind_some, et, if_pos (show aB false = 0 from rfl)]
            refine skip s1 hf1 hst1 hway (fun c' hc => ?_)
            have := (gW_iff.mp hc.1).2.2
            rcases this with ⟨h1, _⟩ | ⟨h1, h2⟩
            · have h3 := hc.2.2.2; rw [h1] at h3; simp at h3; omega
            · cases c' with
              | nil => exact h1 rfl
              | cons u c' => have := (gW_iff.mp h2).2.1; rw [eE] at this; cases this
          · rw [ei, if_neg (d_ne1 (show j < 2147483648 by omega)), dm_isTaught hN hM1 hj, Option.bind_some, et, if_neg (show ¬ aB true = 0 by decide)]
            have hway1 : gWay (w ++ [k]) s1 := by
              intro i hi
              simp at hi
              by_cases e : i = w.length
              · subst e
                rw [← hs1, hv, d_up_eq]
                have : ∀ z, (w ++ [k]).getD w.length z = k := fun z => by simp
                rw [← hv]
                exact ⟨congrArg nI (this _).symm, by rw [this]; omega⟩
              · have : (w ++ [k]).getD i 0 = w.getD i 0 := by
                  rw [List.getD_eq_getElem?_getD, List.getD_eq_getElem?_getD, List.getElem?_append_left (by omega)]
                rw [this]; exact hway i (by omega)
            obtain ⟨s2, b2, g1, g2, g3, g4⟩ := hgo j x L (w ++ [k]) s1 b hM1 hj hx (by simp [hv]) (by omega) hL hway1 hst1
            rw [show f_X12_goes2 (nI j) (nI x) (nI (1 + 1)) (nI L) s1 = some s2 from g1, Option.bind_some]
            have hf2 : gFr 1 s s2 := gFr_trans hf1 g2 (by omega)
            refine ih (k + 1) n s2 b2 (by omega) (by omega) hf2 g3 (fun i hi => by rw [g2.2.2 i (by omega)]; exact hway i hi) (gBst_eq (fun c => gSk_step) (gBst_add hbst (gBst_eq (fun c => ?_) g4) (fun c1 c2 => gSk_gL)))
            constructor
            · rintro ⟨c', rfl, a1, a2, a3, a4⟩
              have hne : c' ≠ [] := by intro e; rw [e] at a4; simp at a4; omega
              refine ⟨c', by simp, gW_iff.mpr ⟨ht, hgc, Or.inr ⟨hne, (gW_C (fun t _ => eE t)).mpr a1⟩⟩, List.nodup_cons.mpr ⟨fun hm => a3 k hm (by simp), a2⟩, fun u hu => ?_, by simp at a4 ⊢; omega⟩
              rcases List.mem_cons.mp hu with rfl | hu
              · exact hnw
              · exact fun hw => a3 u hu (List.mem_append_left _ hw)
            · rintro ⟨c', rfl, a1, a2, a3, a4⟩
              have hne : c' ≠ [] := by intro e; rw [e] at a4; simp at a4; omega
              refine ⟨c', by simp, ?_, (List.nodup_cons.mp a2).2, fun u hu hw => ?_, by simp at a4 ⊢; omega⟩
              · rcases (gW_iff.mp a1).2.2 with ⟨h1, _⟩ | ⟨_, h1⟩
                · exact absurd h1 hne
                · exact (gW_C (fun t _ => eE t)).mp h1
              · rcases List.mem_append.mp hw with hw | hw
                · exact a3 u (List.mem_cons_of_mem _ hu) hw
                · have e : u = k := by simpa using hw
                  subst e
                  exact (List.nodup_cons.mp a2).1 hu
  obtain ⟨s2, b2, h1, h2, h3, h4⟩ := key (N 3) 0 ga_fuel s a (by omega) (d_fuel (by omega)) (gFr_refl 1 s) hst hw (gBst_no (fun c ⟨t, _, ht, _⟩ => by omega))
  exact ⟨s2, b2, h1, h2, h3, gBst_eq (fun c => gSk_all (by omega)) h4⟩
theorem dm_copy0 (go3 : Int32 → Int32 → Int32 → Int32 → Int32 → ga_M → Option ga_M) {L : Nat} (hL : L ≤ 4) (l1 l2 l3 l5 : Int32) (s : ga_M) : ∃ s2, f_X12_goes0_h167 go3 ga_fuel l1 l2 l3 (nI L) l5 0 s = go3 l1 l2 l3 (nI L) (l5 + 1) s2 ∧ (∀ a, a ≠ 79 → s2 a = s a) ∧ ∀ j, j < L → s2 79 j = s 78 j := by
  have key : ∀ r k n (s1 : ga_M), k + r = L → r < n → (∀ a, a ≠ 79 → s1 a = s a) → (∀ j, j < k → s1 79 j = s 78 j) → ∃ s2, f_X12_goes0_h167 go3 n l1 l2 l3 (nI L) l5 (nI k) s1 = go3 l1 l2 l3 (nI L) (l5 + 1) s2 ∧ (∀ a, a ≠ 79 → s2 a = s a) ∧ ∀ j, j < L → s2 79 j = s 78 j := by
    intro r
    induction r with
    | zero =>
      intro k n s1 hk hn h1 h2
      obtain ⟨n, rfl⟩ : ∃ j, n = j + 1 := ⟨n - 1, by omega⟩
      unfold f_X12_goes0_h167
      rw [if_pos (nI_le (show L ≤ k by omega) (by omega))]
      exact ⟨s1, rfl, h1, fun j hj => h2 j (by omega)⟩
    | succ r ih =>
      intro k n s1 hk hn h1 h2
      obtain ⟨n, rfl⟩ : ∃ j, n = j + 1 := ⟨n - 1, by omega⟩
      unfold f_X12_goes0_h167
      dsimp only
      have hi := nI_in (c := k) (N := 4) (by omega) (by omega)
      rw [if_neg (nI_ge (show k < L by omega) (by omega)), if_neg hi, if_neg hi, d_r1, d_cl (show k < 2147483648 by omega)]
      refine ih (k + 1) n _ (by omega) (by omega) (fun a ha => by rw [d_up_ne ha]; exact h1 a ha) (fun j hj => ?_)
      by_cases e : j = k
      · subst e; rw [d_up_eq, h1 78 (by decide)]
      · rw [d_up_nk (fun q => e q.2)]; exact h2 j (by omega)
  exact key L 0 ga_fuel s (by omega) (d_fuel (by omega)) (fun _ _ => rfl) (fun j hj => by omega)
theorem dm_goes0 (hW : dW N Q P) (hgo : gLev N Q P 1 (f_X12_goes1)) : gLev N Q P 0 f_X12_goes0 := by
  have hN := hW.1
  have hB := dWN_b hN
  intro l x L w s a hM hl hx hv hvL hL hw hst
  rw [fe_X12_goes0]; unfold fb_X12_goes0
  have key : ∀ r k n (s0 : ga_M) (b : Option (Int32 × List Nat)), k + r = N 3 → r < n → gFr 0 s s0 → gSt L s0 b → gWay w s0 → gBst (gLd N Q P) (gSk N Q P (nI x) l w L k) a b →
      ∃ s2 b2, f_X12_goes0_h3 n (nI l) (nI x) (nI 0) (nI L) (nI k) s0 = some s2 ∧ gFr 0 s s2 ∧ gSt L s2 b2 ∧ gBst (gLd N Q P) (gSk N Q P (nI x) l w L (N 3)) a b2 := by
    intro r
    induction r with
    | zero =>
      intro k n s0 b hk hn hf hst hway hbst
      obtain ⟨n, rfl⟩ : ∃ j, n = j + 1 := ⟨n - 1, by omega⟩
      have : k = N 3 := by omega
      subst this
      have hM0 := gFr_dM hf hM
      unfold f_X12_goes0_h3
      rw [dmN hM0 (by decide), if_pos (nI_le (Nat.le_refl _) (by omega))]
      exact ⟨s0, b, rfl, hf, hst, hbst⟩
    | succ r ih =>
      intro k n s0 b hk hn hf hst hway hbst
      obtain ⟨n, rfl⟩ : ∃ j, n = j + 1 := ⟨n - 1, by omega⟩
      have hM0 := gFr_dM hf hM
      have ht : k < N 3 := by omega
      have skip : ∀ s1, gFr 0 s s1 → gSt L s1 b → gWay w s1 → (∀ c', ¬ gV N Q P (nI x) l w L (k :: c')) → ∃ s2 b2, f_X12_goes0_h3 n (nI l) (nI x) (nI 0) (nI L) (nI (k + 1)) s1 = some s2 ∧ gFr 0 s s2 ∧ gSt L s2 b2 ∧ gBst (gLd N Q P) (gSk N Q P (nI x) l w L (N 3)) a b2 :=
        fun s1 hf1 hst1 hway1 hno => ih (k + 1) n s1 b (by omega) (by omega) hf1 hst1 hway1 (gBst_eq (fun c => gSk_step) (gBst_add hbst (gBst_no (fun c ⟨c', _, hc⟩ => hno c' hc)) (fun c1 c2 => gSk_gL)))
      unfold f_X12_goes0_h3
      dsimp only
      rw [dmN hM0 (by decide), if_neg (nI_ge ht (by omega)), dm_isAbsent hN hM0 ht, Option.bind_some, d_r1]
      cases ha : aAway N P k (nI x) with
      | true =>
        rw [if_neg (show ¬ aB true = 0 by decide)]
        refine skip s0 hf hst hway (fun c' hc => ?_)
        have := (gW_iff.mp hc.1).2.1
        unfold gC at this; rw [ha] at this; cases this
      | false =>
      rw [if_pos (show aB false = 0 from rfl), dm_isQualified hN hM0 ht hl, Option.bind_some]
      cases hq : aQual Q k l with
      | false =>
        rw [if_pos (show aB false = 0 from rfl)]
        refine skip s0 hf hst hway (fun c' hc => ?_)
        have := (gW_iff.mp hc.1).2.1
        unfold gC at this; rw [hq, Bool.and_false] at this; cases this
      | true =>
      have hgc : gC N Q P (nI x) l k = true := by unfold gC; rw [ha, hq]; rfl
      rw [if_neg (show ¬ aB true = 0 by decide), show nI 0 = nI w.length by rw [hv], dm_onWay hway (by omega) (show k < 8 by omega), Option.bind_some]
      by_cases hnw : k ∈ w
      · rw [decide_eq_true hnw, if_neg (show ¬ aB true = 0 by decide), hv]
        exact skip s0 hf hst hway (fun c' hc => hc.2.2.1 k List.mem_cons_self hnw)
      · rw [decide_eq_false hnw, if_pos (show aB false = 0 from rfl), hv, if_neg (nI_in (c := 0) (N := 4) (by omega) (by omega)), d_cl (show 0 < 2147483648 by omega)]
        generalize hs1 : ga_up s0 78 0 (nI k) = s1
        have hf1 : gFr 0 s s1 := by
          refine gFr_trans hf ⟨fun c c1 c2 c3 => ?_, fun f f1 f2 => ?_, fun j hj => ?_⟩ (Nat.le_refl _)
          · rw [← hs1]; exact d_up_ne c2
          · rw [← hs1]; exact d_up_nk (fun q => by omega)
          · rw [← hs1]; exact d_up_nk (fun q => by omega)
        have hM1 := gFr_dM hf1 hM
        have hst1 : gSt L s1 b := by
          cases b with
          | none => show s1 72 9 = 0; rw [← hs1, d_up_nk (fun q => by omega)]; exact hst
          | some q =>
            refine ⟨?_, ?_, hst.2.2.1, fun j hj => ?_⟩
            · rw [← hs1, d_up_nk (fun q => by omega)]; exact hst.1
            · rw [← hs1, d_up_nk (fun q => by omega)]; exact hst.2.1
            · rw [← hs1, d_up_nk (fun q => by omega)]; exact hst.2.2.2 j hj
        have hway : gWay w s1 := fun j hj => by rw [← hs1, d_up_nk (fun q => by omega)]; exact hway j hj
        have h1k : nI k ≠ -1 := d_ne1 (by omega)
        rw [dm_ofTeacher2 hN hM1, Option.bind_some, nI_1]
        by_cases hleaf : L = 0 + 1
        · rw [if_pos (nI_le (show L ≤ 0 + 1 by omega) (by omega)), dm_loadOf hN hM1 h1k, Option.bind_some]
          by_cases ei : aAt N P 1 (nI x) (nI k) = -1
          · rw [if_pos ei, d_a13, if_neg (nI_in (c := 13 + k) (N := 235) (by omega) (by omega)), d_cl (show 13 + k < 2147483648 by omega), dm13 hM1 ht]
            by_cases el : Q 2 k ≤ aLoad N Q P (nI k)
            · rw [if_pos el]
              refine skip s1 hf1 hst1 hway (fun c' hc => ?_)
              have h3 := hc.2.2.2
              have : c' = [] := List.length_eq_zero_iff.mp (by simp at h3; omega)
              subst this
              have := hc.1.2.2
              unfold gF at this
              rw [Bool.and_eq_true, decide_eq_true_eq, decide_eq_true_eq] at this
              exact Int32.not_lt.mpr el this.2
            · rw [if_neg el]
              have hgf : gF N Q P (nI x) k = true := by unfold gF; rw [decide_eq_true ei, decide_eq_true (Int32.not_le.mp el)]; rfl
              have hgv : gV N Q P (nI x) l w L [k] := ⟨⟨ht, hgc, hgf⟩, by simp, fun u hu => by rw [List.mem_singleton.mp hu]; exact hnw, by simp; omega⟩
              have hone : ∀ c', gV N Q P (nI x) l w L (k :: c') → c' = [] := fun c' hc => by
                have h3 := hc.2.2.2
                exact List.length_eq_zero_iff.mp (by simp at h3; omega)
              -- taken
              have take : gBr b (aLoad N Q P (nI k)) → ∃ s2 b2, f_X12_goes0_h167 (f_X12_goes0_h3 n) ga_fuel (nI l) (nI x) (nI 0) (nI L) (nI k) 0 (ga_up (ga_up s1 72 9 (nI L)) 72 10 (aLoad N Q P (nI k))) = some s2 ∧ gFr 0 s s2 ∧ gSt L s2 b2 ∧ gBst (gLd N Q P) (gSk N Q P (nI x) l w L (N 3)) a b2 := by
                intro hbr
                obtain ⟨s2, e1, e2, e3⟩ := dm_copy0 (f_X12_goes0_h3 n) hL (nI l) (nI x) (nI 0) (nI k) (ga_up (ga_up s1 72 9 (nI L)) 72 10 (aLoad N Q P (nI k)))
                rw [e1, d_r1]
                have hf2 : gFr 0 s s2 := by
                  refine gFr_trans hf1 ⟨fun c c1 c2 c3 => ?_, fun f f1 f2 => ?_, fun j hj => ?_⟩ (Nat.le_refl _)
                  · rw [e2 c c3, d_up_ne c1, d_up_ne c1]
                  · rw [e2 72 (by decide), d_up_nk (fun q => by omega), d_up_nk (fun q => by omega)]
                  · rw [e2 78 (by decide), d_up_ne (by decide), d_up_ne (by decide)]
                refine ih (k + 1) n s2 (some (aLoad N Q P (nI k), w ++ [k])) (by omega) (by omega) hf2 ⟨?_, ?_, by simp; omega, fun j hj => ?_⟩ (fun j hj => ?_) (gBst_eq (fun c => gSk_step) (gBst_add hbst (Or.inr ⟨w ++ [k], ⟨[], rfl, hgv⟩, by rw [gLa_1]; exact hbr, by rw [gLa_1]; rfl, fun c' hc' => ?_⟩) (fun c1 c2 => gSk_gL)))
                · rw [e2 72 (by decide), d_up_nk (fun q => by omega), d_up_eq]
                · rw [e2 72 (by decide), d_up_eq]
                · rw [e3 j hj, d_up_ne (by decide), d_up_ne (by decide)]
                  by_cases e : j = w.length
                  · subst e
                    rw [← hs1, hv, d_up_eq, ← hv]
                    have : ∀ z, (w ++ [k]).getD w.length z = k := fun z => by simp
                    exact congrArg nI (this _).symm
                  · have : (w ++ [k]).getD j 0 = w.getD j 0 := by
                      rw [List.getD_eq_getElem?_getD, List.getD_eq_getElem?_getD, List.getElem?_append_left (by omega)]
                    show _ = nI ((w ++ [k]).getD j 0)
                    rw [this]
                    exact (hway j (by omega)).1
                · rw [e2 78 (by decide), d_up_ne (by decide), d_up_ne (by decide)]
                  exact hway j hj
                · obtain ⟨c'', rfl, hc''⟩ := hc'
                  rw [hone c'' hc'']
                  refine Or.inr ⟨rfl, gL_pre w ?_⟩
                  exact Or.inr ⟨rfl, trivial⟩
              cases b with
              | none =>
                have h9 : s1 72 9 = 0 := hst1
                rw [if_neg (show ¬ s1 72 9 = nI L by rw [h9]; exact fun e => nI_ne0 (show 0 < L by omega) (by omega) e.symm)]
                exact take trivial
              | some q =>
                rw [if_pos hst1.1, hst1.2.1]
                by_cases eb : aLoad N Q P (nI k) < q.1
                · rw [if_pos eb]; exact take eb
                · rw [if_neg eb]
                  refine ih (k + 1) n s1 _ (by omega) (by omega) hf1 hst1 hway (gBst_eq (fun c => gSk_step) (gBst_add hbst (Or.inl ⟨rfl, fun c hc => ?_⟩) (fun c1 c2 => gSk_gL)))
                  obtain ⟨c', rfl, hc'⟩ := hc
                  rw [hone c' hc', gLa_1]
                  exact eb
          · rw [if_neg ei]
            refine skip s1 hf1 hst1 hway (fun c' hc => ?_)
            have h3 := hc.2.2.2
            have : c' = [] := List.length_eq_zero_iff.mp (by simp at h3; omega)
            subst this
            have := hc.1.2.2
            unfold gF at this
            rw [Bool.and_eq_true, decide_eq_true_eq, decide_eq_true_eq] at this
            exact ei this.1
        · rw [if_neg (show ¬ nI L ≤ nI (0 + 1) from nI_ge (show 0 + 1 < L by omega) (by omega))]
          rcases gIts (x := x) hW ht with ⟨ei, eE⟩ | ⟨j, hj, ei, ⟨et, eE⟩ | ⟨et, eE⟩⟩
          · rw [ei, if_pos rfl]
            refine skip s1 hf1 hst1 hway (fun c' hc => ?_)
            have := (gW_iff.mp hc.1).2.2
            rcases this with ⟨h1, _⟩ | ⟨h1, h2⟩
            · have h3 := hc.2.2.2; rw [h1] at h3; simp at h3; omega
            · cases c' with
              | nil => exact h1 rfl
              | cons u c' => have := (gW_iff.mp h2).2.1; rw [eE] at this; cases this
          · rw [ei, if_neg (d_ne1 (show j < 2147483648 by omega)), dm_isTaught hN hM1 hj, Option.bind_some, et, if_pos (show aB false = 0 from rfl)]
            refine skip s1 hf1 hst1 hway (fun c' hc => ?_)
            have := (gW_iff.mp hc.1).2.2
            rcases this with ⟨h1, _⟩ | ⟨h1, h2⟩
            · have h3 := hc.2.2.2; rw [h1] at h3; simp at h3; omega
            · cases c' with
              | nil => exact h1 rfl
              | cons u c' => have := (gW_iff.mp h2).2.1; rw [eE] at this; cases this
          · rw [ei, if_neg (d_ne1 (show j < 2147483648 by omega)), dm_isTaught hN hM1 hj, Option.bind_some, et, if_neg (show ¬ aB true = 0 by decide)]
            have hway1 : gWay (w ++ [k]) s1 := by
              intro i hi
              simp at hi
              by_cases e : i = w.length
              · subst e
                rw [← hs1, hv, d_up_eq]
                have : ∀ z, (w ++ [k]).getD w.length z = k := fun z => by simp
                rw [← hv]
                exact ⟨congrArg nI (this _).symm, by rw [this]; omega⟩
              · have : (w ++ [k]).getD i 0 = w.getD i 0 := by
                  rw [List.getD_eq_getElem?_getD, List.getD_eq_getElem?_getD, List.getElem?_append_left (by omega)]
                rw [this]; exact hway i (by omega)
            obtain ⟨s2, b2, g1, g2, g3, g4⟩ := hgo j x L (w ++ [k]) s1 b hM1 hj hx (by simp [hv]) (by omega) hL hway1 hst1
            rw [show f_X12_goes1 (nI j) (nI x) (nI (0 + 1)) (nI L) s1 = some s2 from g1, Option.bind_some]
            have hf2 : gFr 0 s s2 := gFr_trans hf1 g2 (by omega)
            refine ih (k + 1) n s2 b2 (by omega) (by omega) hf2 g3 (fun i hi => by rw [g2.2.2 i (by omega)]; exact hway i hi) (gBst_eq (fun c => gSk_step) (gBst_add hbst (gBst_eq (fun c => ?_) g4) (fun c1 c2 => gSk_gL)))
            constructor
            · rintro ⟨c', rfl, a1, a2, a3, a4⟩
              have hne : c' ≠ [] := by intro e; rw [e] at a4; simp at a4; omega
              refine ⟨c', by simp, gW_iff.mpr ⟨ht, hgc, Or.inr ⟨hne, (gW_C (fun t _ => eE t)).mpr a1⟩⟩, List.nodup_cons.mpr ⟨fun hm => a3 k hm (by simp), a2⟩, fun u hu => ?_, by simp at a4 ⊢; omega⟩
              rcases List.mem_cons.mp hu with rfl | hu
              · exact hnw
              · exact fun hw => a3 u hu (List.mem_append_left _ hw)
            · rintro ⟨c', rfl, a1, a2, a3, a4⟩
              have hne : c' ≠ [] := by intro e; rw [e] at a4; simp at a4; omega
              refine ⟨c', by simp, ?_, (List.nodup_cons.mp a2).2, fun u hu hw => ?_, by simp at a4 ⊢; omega⟩
              · rcases (gW_iff.mp a1).2.2 with ⟨h1, _⟩ | ⟨_, h1⟩
                · exact absurd h1 hne
                · exact (gW_C (fun t _ => eE t)).mp h1
              · rcases List.mem_append.mp hw with hw | hw
                · exact a3 u (List.mem_cons_of_mem _ hu) hw
                · have e : u = k := by simpa using hw
                  subst e
                  exact (List.nodup_cons.mp a2).1 hu
  obtain ⟨s2, b2, h1, h2, h3, h4⟩ := key (N 3) 0 ga_fuel s a (by omega) (d_fuel (by omega)) (gFr_refl 0 s) hst hw (gBst_no (fun c ⟨t, _, ht, _⟩ => by omega))
  exact ⟨s2, b2, h1, h2, h3, gBst_eq (fun c => gSk_all (by omega)) h4⟩
end D29
