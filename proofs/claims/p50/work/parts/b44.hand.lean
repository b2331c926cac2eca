noncomputable section
section GX6
/-! ===== a row of numbers: at, put, become ===== -/
theorem gx_one {α : Type} {own : String} {cc : ByteArray} {code : Nat → Option ga_E} {g : ga_G} {cost : Nat → Nat × Nat} {hnd : Nat → ga_H} {cls : Nat → List ga_F} {NF RC RS : Nat} {ini lf wr : Bool} {scr : Option (Nat × Nat × (Nat → Int32))} {PS : ga_S → ga_M → Prop} {K0 : ga_O → Option α} {cfg cfg' : ga_C} {r : α}
    (hs : ∀ k : ga_C → Option α, ga_step K0 code g cost hnd cls NF RC RS ini lf wr scr cfg k = k cfg') (h : ga_T own cc code g cost hnd cls NF RC RS ini lf wr scr PS K0 cfg' r) : ga_T own cc code g cost hnd cls NF RC RS ini lf wr scr PS K0 cfg r :=
  ga_T_step (k := fun c => @ite _ (c = cfg') (Classical.propDecidable _) (some r) none) (fun c hc => by
    by_cases hcc : c = cfg'
    · subst hcc; exact h
    · rw [if_neg hcc] at hc; cases hc) (by rw [hs]; exact if_pos rfl)
theorem gx_end {α : Type} {own : String} {cc : ByteArray} {code : Nat → Option ga_E} {g : ga_G} {cost : Nat → Nat × Nat} {hnd : Nat → ga_H} {cls : Nat → List ga_F} {NF RC RS : Nat} {ini lf wr : Bool} {scr : Option (Nat × Nat × (Nat → Int32))} {PS : ga_S → ga_M → Prop} {K0 : ga_O → Option α} {cfg : ga_C} {r : α}
    (hs : ∀ k : ga_C → Option α, ga_step K0 code g cost hnd cls NF RC RS ini lf wr scr cfg k = some r) : ga_T own cc code g cost hnd cls NF RC RS ini lf wr scr PS K0 cfg r :=
  ga_T_step (k := fun _ => none) (fun c hc => by cases hc) (hs _)
theorem gx_fldR {α : Type} {S : ga_S} {σ : ga_M} {n ci i j : Nat} {fs : List ga_F} (h : S[n]? = some (.inl (ci, fs))) (hi : fs[i]? = some (some (some j))) (k : Value → Option α) : ga_fld S σ n ci i k = k (.ref j) := by
  unfold ga_fld; rw [h]; simp [hi]
theorem gx_alen {α : Type} {S : ga_S} {n len : Nat} {scr : Option (Nat × Nat × (Nat → Int32))} (h : S[n]? = some (.inr (0, len))) (k : Int32 → Option α) : ga_alen S scr n k = k (Int32.ofNat len) := by
  unfold ga_alen; rw [h]; simp
theorem gx_iald {α : Type} {S : ga_S} {σ : ga_M} {n len : Nat} {i : Int32} {scr : Option (Nat × Nat × (Nat → Int32))} (h : S[n]? = some (.inr (0, len))) (hi : ¬ (i < 0 ∨ len ≤ i.toNatClampNeg)) (k : Int32 → Option α) : ga_iald S σ scr n i k = k (σ n i.toNatClampNeg) := by
  unfold ga_iald; rw [h]; simp only [if_pos]; rw [if_neg hi]
theorem gx_arr {α : Type} {S : ga_S} {n len kd : Nat} (h : S[n]? = some (.inr (kd, len))) (k : Nat → Option α) : ga_arr S n kd k = k len := by
  unfold ga_arr; rw [h]; simp
theorem gx_bd {n : Nat} {i : Int32} (hn : n < 2147483648) (h0 : ¬ i < 0) (h1 : ¬ Int32.ofNat n ≤ i) : ¬ (i < 0 ∨ n ≤ i.toNatClampNeg) := by
  obtain ⟨j, hj, rfl⟩ := nI_of h0
  rintro (h | h)
  · exact h0 h
  · rw [nI_clamp hj] at h
    exact h1 (nI_le h hj)
abbrev T_X6_at {α : Type} (P : ga_S) (s0 : ga_M) (K0 : ga_O → Option α) (cfg : ga_C) (r : α) : Prop := ga_T RX6 cX6_at (ga_lk cl_X6_at) gaGP gaCost (fun _ => []) gaCls 84 0 0 false true false none (fun S σ => S = P ∧ σ = s0) K0 cfg r
abbrev T_X6_put {α : Type} (P : ga_S) (K0 : ga_O → Option α) (cfg : ga_C) (r : α) : Prop := ga_T RX6 cX6_put (ga_lk cl_X6_put) gaG gaCost (fun _ => []) gaCls 84 0 0 false true true none (fun S _ => S = P) K0 cfg r
abbrev T_X6_become {α : Type} (P : ga_S) (K0 : ga_O → Option α) (cfg : ga_C) (r : α) : Prop := ga_T RX6 cX6_become (ga_lk cl_X6_become) gaG gaCost (fun _ => []) gaCls 84 0 0 false true true none (fun S _ => S = P) K0 cfg r
theorem t_X6_at {S : ga_S} {a n r : Nat} (hn : n < 2147483648) (h1 : S[r]? = some (.inl (6, [some (some a)]))) (h2 : S[a]? = some (.inr (0, n))) (i : Int32) (σ : ga_M) : T_X6_at S σ gp_kI (0, [some (.ref r), some (.int i)], [], S, σ, 0, 0) (ga_at a n i σ) := by
  have hout : ∀ L : ga_Lo, T_X6_at S σ gp_kI (22, L, [], S, σ, 0, 0) (-1) := fun L =>
    gx_one (cfg' := (23, L, [.int (-1)], S, σ, 0, 0)) (fun k => rfl) (gx_end (fun k => rfl))
  refine gx_one (cfg' := (1, [some (.ref r), some (.int i)], [.int i], S, σ, 0, 0)) (fun k => rfl) ?_
  unfold ga_at
  by_cases c1 : i < 0
  · rw [if_pos c1]
    exact gx_one (cfg' := (22, [some (.ref r), some (.int i)], [], S, σ, 0, 0)) (fun k => if_pos c1) (hout _)
  rw [if_neg c1]
  refine gx_one (cfg' := (4, [some (.ref r), some (.int i)], [], S, σ, 0, 0)) (fun k => if_neg c1) ?_
  refine gx_one (cfg' := (5, [some (.ref r), some (.int i)], [.int i], S, σ, 0, 0)) (fun k => rfl) ?_
  refine gx_one (cfg' := (6, [some (.ref r), some (.int i)], [.ref r, .int i], S, σ, 0, 0)) (fun k => rfl) ?_
  refine gx_one (cfg' := (9, [some (.ref r), some (.int i)], [.ref a, .int i], S, σ, 0, 0)) (fun k => gx_fldR (σ := σ) (i := 0) (j := a) h1 rfl (fun v => k (9, [some (.ref r), some (.int i)], [v, .int i], S, σ, 0, 0))) ?_
  refine gx_one (cfg' := (10, [some (.ref r), some (.int i)], [.int (Int32.ofNat n), .int i], S, σ, 0, 0)) (fun k => gx_alen (scr := none) h2 (fun v => k (10, [some (.ref r), some (.int i)], [.int v, .int i], S, σ, 0, 0))) ?_
  by_cases c2 : Int32.ofNat n ≤ i
  · rw [if_pos c2]
    exact gx_one (cfg' := (22, [some (.ref r), some (.int i)], [], S, σ, 0, 0)) (fun k => if_pos c2) (hout _)
  rw [if_neg c2]
  refine gx_one (cfg' := (13, [some (.ref r), some (.int i)], [], S, σ, 0, 0)) (fun k => if_neg c2) ?_
  refine gx_one (cfg' := (14, [some (.ref r), some (.int i)], [.ref r], S, σ, 0, 0)) (fun k => rfl) ?_
  refine gx_one (cfg' := (17, [some (.ref r), some (.int i)], [.ref a], S, σ, 0, 0)) (fun k => gx_fldR (σ := σ) (i := 0) (j := a) h1 rfl (fun v => k (17, [some (.ref r), some (.int i)], [v], S, σ, 0, 0))) ?_
  refine gx_one (cfg' := (18, [some (.ref r), some (.int i)], [.int i, .ref a], S, σ, 0, 0)) (fun k => rfl) ?_
  refine gx_one (cfg' := (19, [some (.ref r), some (.int i)], [.int (σ a i.toNatClampNeg)], S, σ, 0, 0)) (fun k => gx_iald (σ := σ) (scr := none) h2 (gx_bd hn c1 c2) (fun v => k (19, [some (.ref r), some (.int i)], [.int v], S, σ, 0, 0))) ?_
  refine gx_one (cfg' := (23, [some (.ref r), some (.int i)], [.int (σ a i.toNatClampNeg)], S, σ, 0, 0)) (fun k => rfl) ?_
  exact gx_end (fun k => rfl)
theorem t_X6_put {S : ga_S} {a n r : Nat} (hn : n < 2147483648) (h1 : S[r]? = some (.inl (6, [some (some a)]))) (h2 : S[a]? = some (.inr (0, n))) (i x : Int32) (σ : ga_M) : T_X6_put S ga_kV (0, [some (.ref r), some (.int i), some (.int x)], [], S, σ, 0, 0) (ga_pt a n i x σ) := by
  have hout : ∀ (L : ga_Lo) (σ : ga_M), T_X6_put S ga_kV (20, L, [], S, σ, 0, 0) σ := fun L σ => gx_end (fun k => rfl)
  refine gx_one (cfg' := (1, [some (.ref r), some (.int i), some (.int x)], [.int i], S, σ, 0, 0)) (fun k => rfl) ?_
  unfold ga_pt
  by_cases c1 : i < 0
  · rw [if_pos c1]
    exact gx_one (cfg' := (20, [some (.ref r), some (.int i), some (.int x)], [], S, σ, 0, 0)) (fun k => if_pos c1) (hout _ _)
  rw [if_neg c1]
  refine gx_one (cfg' := (4, [some (.ref r), some (.int i), some (.int x)], [], S, σ, 0, 0)) (fun k => if_neg c1) ?_
  refine gx_one (cfg' := (5, [some (.ref r), some (.int i), some (.int x)], [.int i], S, σ, 0, 0)) (fun k => rfl) ?_
  refine gx_one (cfg' := (6, [some (.ref r), some (.int i), some (.int x)], [.ref r, .int i], S, σ, 0, 0)) (fun k => rfl) ?_
  refine gx_one (cfg' := (9, [some (.ref r), some (.int i), some (.int x)], [.ref a, .int i], S, σ, 0, 0)) (fun k => gx_fldR (σ := σ) (i := 0) (j := a) h1 rfl (fun v => k (9, [some (.ref r), some (.int i), some (.int x)], [v, .int i], S, σ, 0, 0))) ?_
  refine gx_one (cfg' := (10, [some (.ref r), some (.int i), some (.int x)], [.int (Int32.ofNat n), .int i], S, σ, 0, 0)) (fun k => gx_alen (scr := none) h2 (fun v => k (10, [some (.ref r), some (.int i), some (.int x)], [.int v, .int i], S, σ, 0, 0))) ?_
  by_cases c2 : Int32.ofNat n ≤ i
  · rw [if_pos c2]
    exact gx_one (cfg' := (20, [some (.ref r), some (.int i), some (.int x)], [], S, σ, 0, 0)) (fun k => if_pos c2) (hout _ _)
  rw [if_neg c2]
  refine gx_one (cfg' := (13, [some (.ref r), some (.int i), some (.int x)], [], S, σ, 0, 0)) (fun k => if_neg c2) ?_
  refine gx_one (cfg' := (14, [some (.ref r), some (.int i), some (.int x)], [.ref r], S, σ, 0, 0)) (fun k => rfl) ?_
  refine gx_one (cfg' := (17, [some (.ref r), some (.int i), some (.int x)], [.ref a], S, σ, 0, 0)) (fun k => gx_fldR (σ := σ) (i := 0) (j := a) h1 rfl (fun v => k (17, [some (.ref r), some (.int i), some (.int x)], [v], S, σ, 0, 0))) ?_
  refine gx_one (cfg' := (18, [some (.ref r), some (.int i), some (.int x)], [.int i, .ref a], S, σ, 0, 0)) (fun k => rfl) ?_
  refine gx_one (cfg' := (19, [some (.ref r), some (.int i), some (.int x)], [.int x, .int i, .ref a], S, σ, 0, 0)) (fun k => rfl) ?_
  refine gx_one (cfg' := (20, [some (.ref r), some (.int i), some (.int x)], [], S, ga_up σ a i.toNatClampNeg x, 0, 0)) (fun k => (gx_arr h2 (fun a_1 => if i < 0 ∨ a_1 ≤ i.toNatClampNeg then none else k (20, [some (.ref r), some (.int i), some (.int x)], [], S, ga_up σ a i.toNatClampNeg x, 0, 0))).trans (if_neg (gx_bd hn c1 c2))) ?_
  exact hout _ _
/-- where become stands behind i places -/
def gx_bi (a n b n2 : Nat) (σ : ga_M) (i : Nat) : ga_M := fun x => if x = a then (fun j => if j < i then ga_at b n2 (nI j) σ else σ a j) else σ x
theorem gx_bi_at {a n b n2 : Nat} {σ : ga_M} {i : Nat} (hi : i < 2147483648) : ga_at b n2 (nI i) (gx_bi a n b n2 σ i) = ga_at b n2 (nI i) σ := by
  unfold ga_at
  split
  · rfl
  · split
    · rfl
    · rw [nI_clamp hi]
      unfold gx_bi
      by_cases hb : b = a
      · subst hb
        rw [if_pos rfl, if_neg (Nat.lt_irrefl i)]
      · rw [if_neg hb]
theorem gx_bi_succ {a n b n2 : Nat} {σ : ga_M} {i : Nat} : ga_up (gx_bi a n b n2 σ i) a i (ga_at b n2 (nI i) σ) = gx_bi a n b n2 σ (i + 1) := by
  funext x
  unfold ga_up gx_bi
  by_cases hx : x = a
  · subst hx
    rw [if_pos rfl, if_pos rfl, if_pos rfl]
    funext j
    unfold upd
    by_cases hj : j = i
    · subst hj
      rw [if_pos rfl, if_pos (Nat.lt_succ_self j)]
    · rw [if_neg hj]
      dsimp only
      by_cases h2 : j < i
      · rw [if_pos h2, if_pos (by omega)]
      · rw [if_neg h2, if_neg (by omega)]
  · rw [if_neg hx, if_neg hx, if_neg hx]
theorem t_X6_become {S : ga_S} {a n b n2 r q : Nat} (hn : n < 2147483648) (h1 : S[r]? = some (.inl (6, [some (some a)]))) (h2 : S[a]? = some (.inr (0, n))) (h3 : S[q]? = some (.inl (6, [some (some b)]))) (h4 : S[b]? = some (.inr (0, n2))) (σ : ga_M) : T_X6_become S ga_kV (0, [some (.ref r), some (.ref q), none], [], S, σ, 0, 0) (ga_bc a n b n2 σ) := by
  have hloop : ∀ d i, i + d = n → T_X6_become S ga_kV (2, [some (.ref r), some (.ref q), some (.int (nI i))], [], S, gx_bi a n b n2 σ i, 0, 0) (ga_bc a n b n2 σ) := by
    intro d
    induction d with
    | zero =>
      intro i hi
      have : i = n := by omega
      subst this
      refine gx_one (cfg' := (3, [some (.ref r), some (.ref q), some (.int (nI i))], [.int (nI i)], S, gx_bi a i b n2 σ i, 0, 0)) (fun k => rfl) ?_
      refine gx_one (cfg' := (4, [some (.ref r), some (.ref q), some (.int (nI i))], [.ref r, .int (nI i)], S, gx_bi a i b n2 σ i, 0, 0)) (fun k => rfl) ?_
      refine gx_one (cfg' := (7, [some (.ref r), some (.ref q), some (.int (nI i))], [.ref a, .int (nI i)], S, gx_bi a i b n2 σ i, 0, 0)) (fun k => gx_fldR (σ := gx_bi a i b n2 σ i) (i := 0) (j := a) h1 rfl (fun v => k (7, [some (.ref r), some (.ref q), some (.int (nI i))], [v, .int (nI i)], S, gx_bi a i b n2 σ i, 0, 0))) ?_
      refine gx_one (cfg' := (8, [some (.ref r), some (.ref q), some (.int (nI i))], [.int (Int32.ofNat i), .int (nI i)], S, gx_bi a i b n2 σ i, 0, 0)) (fun k => gx_alen (scr := none) h2 (fun v => k (8, [some (.ref r), some (.ref q), some (.int (nI i))], [.int v, .int (nI i)], S, gx_bi a i b n2 σ i, 0, 0))) ?_
      refine gx_one (cfg' := (28, [some (.ref r), some (.ref q), some (.int (nI i))], [], S, gx_bi a i b n2 σ i, 0, 0)) (fun k => if_pos (show nI i ≤ nI i from nI_le (Nat.le_refl _) hn)) ?_
      exact gx_end (fun k => rfl)
    | succ d ih =>
      intro i hi
      refine gx_one (cfg' := (3, [some (.ref r), some (.ref q), some (.int (nI i))], [.int (nI i)], S, gx_bi a n b n2 σ i, 0, 0)) (fun k => rfl) ?_
      refine gx_one (cfg' := (4, [some (.ref r), some (.ref q), some (.int (nI i))], [.ref r, .int (nI i)], S, gx_bi a n b n2 σ i, 0, 0)) (fun k => rfl) ?_
      refine gx_one (cfg' := (7, [some (.ref r), some (.ref q), some (.int (nI i))], [.ref a, .int (nI i)], S, gx_bi a n b n2 σ i, 0, 0)) (fun k => gx_fldR (σ := gx_bi a n b n2 σ i) (i := 0) (j := a) h1 rfl (fun v => k (7, [some (.ref r), some (.ref q), some (.int (nI i))], [v, .int (nI i)], S, gx_bi a n b n2 σ i, 0, 0))) ?_
      refine gx_one (cfg' := (8, [some (.ref r), some (.ref q), some (.int (nI i))], [.int (Int32.ofNat n), .int (nI i)], S, gx_bi a n b n2 σ i, 0, 0)) (fun k => gx_alen (scr := none) h2 (fun v => k (8, [some (.ref r), some (.ref q), some (.int (nI i))], [.int v, .int (nI i)], S, gx_bi a n b n2 σ i, 0, 0))) ?_
      refine gx_one (cfg' := (11, [some (.ref r), some (.ref q), some (.int (nI i))], [], S, gx_bi a n b n2 σ i, 0, 0)) (fun k => if_neg (show ¬ nI n ≤ nI i from nI_ge (by omega) hn)) ?_
      refine gx_one (cfg' := (12, [some (.ref r), some (.ref q), some (.int (nI i))], [.ref r], S, gx_bi a n b n2 σ i, 0, 0)) (fun k => rfl) ?_
      refine gx_one (cfg' := (15, [some (.ref r), some (.ref q), some (.int (nI i))], [.ref a], S, gx_bi a n b n2 σ i, 0, 0)) (fun k => gx_fldR (σ := gx_bi a n b n2 σ i) (i := 0) (j := a) h1 rfl (fun v => k (15, [some (.ref r), some (.ref q), some (.int (nI i))], [v], S, gx_bi a n b n2 σ i, 0, 0))) ?_
      refine gx_one (cfg' := (16, [some (.ref r), some (.ref q), some (.int (nI i))], [.int (nI i), .ref a], S, gx_bi a n b n2 σ i, 0, 0)) (fun k => rfl) ?_
      refine gx_one (cfg' := (17, [some (.ref r), some (.ref q), some (.int (nI i))], [.ref q, .int (nI i), .ref a], S, gx_bi a n b n2 σ i, 0, 0)) (fun k => rfl) ?_
      refine gx_one (cfg' := (18, [some (.ref r), some (.ref q), some (.int (nI i))], [.int (nI i), .ref q, .int (nI i), .ref a], S, gx_bi a n b n2 σ i, 0, 0)) (fun k => rfl) ?_
      refine gx_one (cfg' := (21, [some (.ref r), some (.ref q), some (.int (nI i))], [.int (ga_at b n2 (nI i) (gx_bi a n b n2 σ i)), .int (nI i), .ref a], S, gx_bi a n b n2 σ i, 0, 0)) (fun k => ?_) ?_
      · have e1 : ∀ X : Option ga_M, ga_rv S [.int (nI i), .ref q, .int (nI i), .ref a] 2 [(0, 6)] X = X := fun X => by
          unfold ga_rv
          simp only [List.drop, h3]
          exact if_pos trivial
        refine (e1 _).trans ?_
        refine (if_pos (show 0 + (gaCost 1).1 ≤ 0 ∧ 0 + (gaCost 1).2 ≤ 0 from ⟨by decide, by decide⟩)).trans ?_
        show (if (2 : Nat) ≤ 4 then (if _ then gaG _ 1 [.ref q, .int (nI i)] S (gx_bi a n b n2 σ i) _ else none) else none) = _
        rw [if_pos (by decide), if_pos (Nat.le_of_ble_eq_true rfl)]
        show c_X6_at [.ref q, .int (nI i)] S (gx_bi a n b n2 σ i) _ = _
        unfold c_X6_at
        simp only [h3, h4]
        rfl
      refine gx_one (cfg' := (22, [some (.ref r), some (.ref q), some (.int (nI i))], [], S, gx_bi a n b n2 σ (i + 1), 0, 0)) (fun k => ?_) ?_
      · refine (gx_arr h2 (fun a_1 => if nI i < 0 ∨ a_1 ≤ (nI i).toNatClampNeg then none else k (22, [some (.ref r), some (.ref q), some (.int (nI i))], [], S, ga_up (gx_bi a n b n2 σ i) a (nI i).toNatClampNeg (ga_at b n2 (nI i) (gx_bi a n b n2 σ i)), 0, 0))).trans ((if_neg (nI_in (by omega) hn)).trans ?_)
        rw [nI_clamp (by omega), gx_bi_at (by omega), gx_bi_succ]
      refine gx_one (cfg' := (25, [some (.ref r), some (.ref q), some (.int (nI i + 1))], [], S, gx_bi a n b n2 σ (i + 1), 0, 0)) (fun k => rfl) ?_
      refine gx_one (cfg' := (2, [some (.ref r), some (.ref q), some (.int (nI i + 1))], [], S, gx_bi a n b n2 σ (i + 1), 0, 0)) (fun k => rfl) ?_
      rw [← nI_succ]
      exact ih (i + 1) (by omega)
  refine gx_one (cfg' := (1, [some (.ref r), some (.ref q), none], [.int 0], S, σ, 0, 0)) (fun k => rfl) ?_
  refine gx_one (cfg' := (2, [some (.ref r), some (.ref q), some (.int 0)], [], S, σ, 0, 0)) (fun k => rfl) ?_
  have h0 : gx_bi a n b n2 σ 0 = σ := by
    funext x
    unfold gx_bi
    by_cases hx : x = a
    · subst hx; rw [if_pos rfl]; rfl
    · rw [if_neg hx]
  have := hloop n 0 (by omega)
  rw [h0] at this
  exact this
end GX6
section GJ0
variable {p : Program} {l : Launch} {e : Env} {R : Room} {s : State} {m : MethodId} {args : Array Value} {below : List Frame} {meth : Method} {c : Code}
variable {D : va_G} {cA : Nat → ClassId} {ad : Nat → Nat} {A : Nat → Prop} {adV : Nat → Nat}
/-! ===== length and charAt of the texts: the JDK's own methods, which write nothing ===== -/
def gj_Pc (D : va_G) (cA : Nat → ClassId) (ad : Nat → Nat) (A : Nat → Prop) (adV : Nat → Nat) (as : List Value) : Array Value → State → Prop := fun v U => v = as.toArray ∧ gb_E D cA ad A adV U U.heap
def gj_Qc (x : Option Value) : Array Value → State → Outcome → State → Prop := fun _ st oc t => oc = .returned x ∧ t.heap = st.heap
def gj_C (l : Launch) (D : va_G) (cA : Nat → ClassId) (ad : Nat → Nat) (A : Nat → Prop) (adV : Nat → Nat) (y : MethodName) (ws : List Cond) (lv : Nat) (as : List Value) (x : Option Value) : Prop :=
  vx_Met l y ws (gb_rm lv 0 0) (gj_Pc D cA ad A adV as) (gj_Qc x) (fun _ _ _ => False) 0 0 A
theorem gj_blind {as : List Value} : FrameBlind (gj_Pc D cA ad A adV as) := fun _ _ _ _ h => ⟨h.1, h.2.same rfl⟩
theorem gj_done {locs : List Loc} {cells slots pc : Nat} {Q : State → Prop} {ls : Array Slot} {st r : List Value} {x : Option Value} {a : Array Value} {H : Heap}
    (hr : vx_Run p l e R s m args below meth c H locs cells slots 0 0 (F0 m pc ls st) r (gj_Qc x a) (fun _ _ _ => False) A) (hS : va_S A H H locs)
    (kk : ∀ locs1, va_S A H H locs1 → W p l e R s m args below meth c H locs1 cells slots Q (F0 m (pc + 3) ls (x.toList ++ r))) : W p l e R s m args below meth c H locs cells slots Q (F0 m pc ls st) := by
  intro T hT X
  rcases hr T hT X with ⟨v, st₀, t, T', L, h0, X', hL, e1, e2, ⟨hv, hh⟩, hg⟩ | ⟨q, st₀, t, T', L, E, ce, h0, X', hL, e1, e2, hf, -⟩
  · cases hv
    have hH : T'.heap = H := by rw [e1, hh, h0]
    obtain ⟨t2, a1, b1⟩ := kk (locs ++ L) ⟨hS.1, hS.2.1, fun z hz => (List.mem_append.mp hz).elim (hS.2.2 z) (hL z)⟩ T' hH X'
    exact ⟨t2, hg t2 a1, b1⟩
  · exact hf.elim
theorem gj_callV {cc : ByteArray} {own : String} {y0 : MethodName} {maxL0 : Nat} {ret0 : Option FieldType} {y : MethodName} {bytes : ByteArray} {maxL lv lev n i pc a : Nat} {ret : Option FieldType} {x : Option Value} {ls : Array Slot} {r As : List Value} {locs : List Loc} {Q : State → Prop}
    (hlv : lv + 1 ≤ lev) (hmL : maxL ≤ 14) (hx : p.tables.exec = Jvm.exec) (hb : c.code = cc) (hml : c.maxLocals = maxL0) (hown : s.vm.findClass own = some m.cls) (hts : ∀ w ∈ gb_ws y0 cc maxL0 ret0, w.before args s = true) (hE : gb_E D cA ad A adV s s.heap)
    (hC : gj_C l D cA ad A adV y (gb_ws y bytes maxL ret) lv (.ref a :: As) x) (hcode : Cond.code y bytes maxL ret ∈ gb_good) (hini : Cond.initialized y.cls ∈ gb_good) (hlk : Cond.methodLink own i y ∈ gb_good) (hinst : Cond.instanceMethod y ∈ gb_good) (hsel : Cond.selects y.cls y y ∈ gb_good)
    (hmh : y.cls ≠ "java/lang/invoke/MethodHandle" ∧ y.cls ≠ "java/lang/invoke/VarHandle") (hpar : (parseMethodDescriptor y.desc).map (fun d => d.parameters.length) = some n) (hn : As.length = n)
    (hrec : ∃ cellB : Cell, s.heap[a]? = some cellB ∧ cellB.vm.isStatics = false ∧ s.vm.findClass y.cls = some cellB.cls) (hS : va_S A s.heap s.heap locs) (hsz : ls.size = maxL0) (hsum : (r.map fun v => v.category).sum ≤ 8) (hdg : decode cc pc = .ok (.invokevirtual i, 3))
    (kk : ∀ locs1, va_S A s.heap s.heap locs1 → W p l e (gb_rm lev 0 0) s m args below meth c s.heap locs1 0 0 Q (F0 m (pc + 3) ls (x.toList ++ r))) : W p l e (gb_rm lev 0 0) s m args below meth c s.heap locs 0 0 Q (F0 m pc ls (As.reverse ++ .ref a :: r)) := by
  have hgood : ∀ w ∈ gb_good, w.before args s = true := fun w h => hts w (gb_ws_good w h)
  have hF : CallFix p m c cc maxL0 s args (gb_ws y0 cc maxL0 ret0) own := ⟨hx, hb, hml, hown, hts⟩
  have hroom : (gb_rm lv 0 0).frames + 1 ≤ (gb_rm lev 0 0).frames ∧ 8 + (maxL + 11) + (gb_rm lv 0 0).locals ≤ (gb_rm lev 0 0).locals := by simp only [gb_rm]; omega
  have hcb := callB_of (own := own) (index := i) (R := gb_rm lev 0 0) n hts (gb_ws_in gb_ws_good hcode) rfl rfl rfl (hgood _ hini) (hgood _ hlk) ⟨hmh.1, hmh.2, hpar⟩ hroom
  have hcW : CallW (gb_rm lev 0 0) s args own y.cls i y bytes maxL ret (gb_ws y bytes maxL ret) (gb_rm lv 0 0) 0 0 n := ⟨hcb, hgood _ hinst, hgood _ hsel⟩
  have hPc : ∀ U : State, U.heap = s.heap → s.WarmedH U.vm → gj_Pc D cA ad A adV (.ref a :: As) (Value.ref a :: As).toArray U := fun U hU hW => ⟨rfl, by rw [hU]; exact hE.to hW (Nat.le_refl _) (fun _ _ _ => rfl)⟩
  have hrun := vx_runV (e := e) (meth := meth) (below := below) (g := F0 m pc ls (As.reverse ++ .ref a :: r)) (rest := r) (As := As) (b := a) (H := s.heap) (locs := locs) (cells := 0) (slots := 0) hF hC hcW ⟨gj_blind, hrec, hPc⟩ rfl hn hsz rfl (by simpa [F0, JFrame.monitorRoom] using hsum) hdg ⟨Nat.le_refl _, Nat.le_refl _⟩
  exact gj_done hrun hS kk
theorem gj_callS {cc : ByteArray} {own : String} {y0 : MethodName} {maxL0 : Nat} {ret0 : Option FieldType} {y : MethodName} {bytes : ByteArray} {maxL lv lev n i pc : Nat} {ret : Option FieldType} {x : Option Value} {ls : Array Slot} {r As : List Value} {locs : List Loc} {Q : State → Prop}
    (hlv : lv + 1 ≤ lev) (hmL : maxL ≤ 14) (hx : p.tables.exec = Jvm.exec) (hb : c.code = cc) (hml : c.maxLocals = maxL0) (hown : s.vm.findClass own = some m.cls) (hts : ∀ w ∈ gb_ws y0 cc maxL0 ret0, w.before args s = true) (hE : gb_E D cA ad A adV s s.heap)
    (hC : gj_C l D cA ad A adV y (gb_ws y bytes maxL ret) lv As x) (hcode : Cond.code y bytes maxL ret ∈ gb_good) (hini : Cond.initialized y.cls ∈ gb_good) (hlk : Cond.methodLink own i y ∈ gb_good) (hst : Cond.static y ∈ gb_good)
    (hmh : y.cls ≠ "java/lang/invoke/MethodHandle" ∧ y.cls ≠ "java/lang/invoke/VarHandle") (hpar : (parseMethodDescriptor y.desc).map (fun d => d.parameters.length) = some n) (hn : As.length = n)
    (hS : va_S A s.heap s.heap locs) (hsz : ls.size = maxL0) (hsum : (r.map fun v => v.category).sum ≤ 8) (hdg : decode cc pc = .ok (.invokestatic i, 3))
    (kk : ∀ locs1, va_S A s.heap s.heap locs1 → W p l e (gb_rm lev 0 0) s m args below meth c s.heap locs1 0 0 Q (F0 m (pc + 3) ls (x.toList ++ r))) : W p l e (gb_rm lev 0 0) s m args below meth c s.heap locs 0 0 Q (F0 m pc ls (As.reverse ++ r)) := by
  have hgood : ∀ w ∈ gb_good, w.before args s = true := fun w h => hts w (gb_ws_good w h)
  have hF : CallFix p m c cc maxL0 s args (gb_ws y0 cc maxL0 ret0) own := ⟨hx, hb, hml, hown, hts⟩
  have hroom : (gb_rm lv 0 0).frames + 1 ≤ (gb_rm lev 0 0).frames ∧ 8 + (maxL + 11) + (gb_rm lv 0 0).locals ≤ (gb_rm lev 0 0).locals := by simp only [gb_rm]; omega
  have hcb := callB_of (own := own) (index := i) (R := gb_rm lev 0 0) n hts (gb_ws_in gb_ws_good hcode) rfl rfl rfl (hgood _ hini) (hgood _ hlk) ⟨hmh.1, hmh.2, hpar⟩ hroom
  have hPc : ∀ U : State, U.heap = s.heap → s.WarmedH U.vm → gj_Pc D cA ad A adV As As.toArray U := fun U hU hW => ⟨rfl, by rw [hU]; exact hE.to hW (Nat.le_refl _) (fun _ _ _ => rfl)⟩
  have hrun := vx_runS (e := e) (meth := meth) (below := below) (g := F0 m pc ls (As.reverse ++ r)) (rest := r) (As := As) (H := s.heap) (locs := locs) (cells := 0) (slots := 0) hF hC ⟨hcb, hgood _ hst⟩ ⟨gj_blind, hPc⟩ rfl hn hsz rfl (by simpa [F0, JFrame.monitorRoom] using hsum) hdg ⟨Nat.le_refl _, Nat.le_refl _⟩
  exact gj_done hrun hS kk
/-- the last step -/
theorem gj_ret {cc : ByteArray} {ty : FieldType} {ret : Option FieldType} {lev pc : Nat} {ls : Array Slot} {locs : List Loc} {v : Int32} (hx : p.tables.exec = Jvm.exec) (hb : c.code = cc) (hr : meth.sig.returnType = some ty) (hn : narrow ty (.int v) = .int v) (hlocks : meth.locks = false) (hS : va_S A s.heap s.heap locs) (hdg : decode cc pc = .ok (.ireturn, 1)) :
    W p l e (gb_rm lev 0 0) s m args below meth c s.heap locs 0 0 (vx_MQ below (gj_Qc (some (.int v))) (fun _ _ _ => False) args s 0 0 A) (F0 m pc ls [.int v]) :=
  vx_ret (W.zret hx hb hr hn (fun t ht _ => ⟨rfl, ht⟩) hS.2.2 hdg hlocks)
end GJ0
section GJ1
variable {l : Launch} {D : va_G} {cA : Nat → ClassId} {ad : Nat → Nat} {A : Nat → Prop} {adV : Nat → Nat}
theorem gj_pnJ0 : plainName RJ0 = true := by decide +kernel
theorem gj_pnJ1 : plainName RJ1 = true := by decide +kernel
theorem gj_pnJ3 : plainName RJ3 = true := by decide +kernel
theorem gj_nmJ1 : gb_Nm RJ1 := by unfold gb_Nm; decide +kernel
theorem gj_nmJ3 : gb_Nm RJ3 := by unfold gb_Nm; decide +kernel
theorem dJ0_length_8abf5_0 : decode cJ0_length_8abf5 0 = .ok (.aload_n 0, 1) := by decide +kernel
theorem dJ0_length_8abf5_1 : decode cJ0_length_8abf5 1 = .ok (.getfield 9, 3) := by decide +kernel
theorem dJ0_length_8abf5_4 : decode cJ0_length_8abf5 4 = .ok (.arraylength, 1) := by decide +kernel
theorem dJ0_length_8abf5_5 : decode cJ0_length_8abf5 5 = .ok (.aload_n 0, 1) := by decide +kernel
theorem dJ0_length_8abf5_6 : decode cJ0_length_8abf5 6 = .ok (.invokevirtual 335, 3) := by decide +kernel
theorem dJ0_length_8abf5_9 : decode cJ0_length_8abf5 9 = .ok (.ishr, 1) := by decide +kernel
theorem dJ0_length_8abf5_10 : decode cJ0_length_8abf5 10 = .ok (.ireturn, 1) := by decide +kernel
theorem dJ0_charAt_5068e_0 : decode cJ0_charAt_5068e 0 = .ok (.aload_n 0, 1) := by decide +kernel
theorem dJ0_charAt_5068e_1 : decode cJ0_charAt_5068e 1 = .ok (.invokevirtual 492, 3) := by decide +kernel
theorem dJ0_charAt_5068e_4 : decode cJ0_charAt_5068e 4 = .ok (.ifCond .eq 12, 3) := by decide +kernel
theorem dJ0_charAt_5068e_7 : decode cJ0_charAt_5068e 7 = .ok (.aload_n 0, 1) := by decide +kernel
theorem dJ0_charAt_5068e_8 : decode cJ0_charAt_5068e 8 = .ok (.getfield 9, 3) := by decide +kernel
theorem dJ0_charAt_5068e_11 : decode cJ0_charAt_5068e 11 = .ok (.iload_n 1, 1) := by decide +kernel
theorem dJ0_charAt_5068e_12 : decode cJ0_charAt_5068e 12 = .ok (.invokestatic 495, 3) := by decide +kernel
theorem dJ0_charAt_5068e_15 : decode cJ0_charAt_5068e 15 = .ok (.ireturn, 1) := by decide +kernel
theorem dJ0_charAt_5068e_16 : decode cJ0_charAt_5068e 16 = .ok (.aload_n 0, 1) := by decide +kernel
theorem dJ0_charAt_5068e_17 : decode cJ0_charAt_5068e 17 = .ok (.getfield 9, 3) := by decide +kernel
theorem dJ0_charAt_5068e_20 : decode cJ0_charAt_5068e 20 = .ok (.iload_n 1, 1) := by decide +kernel
theorem dJ0_charAt_5068e_21 : decode cJ0_charAt_5068e 21 = .ok (.invokestatic 498, 3) := by decide +kernel
theorem dJ0_charAt_5068e_24 : decode cJ0_charAt_5068e 24 = .ok (.ireturn, 1) := by decide +kernel
theorem dJ0_coder_7d493_0 : decode cJ0_coder_7d493 0 = .ok (.getstatic 38, 3) := by decide +kernel
theorem dJ0_coder_7d493_3 : decode cJ0_coder_7d493 3 = .ok (.ifCond .eq 10, 3) := by decide +kernel
theorem dJ0_coder_7d493_6 : decode cJ0_coder_7d493 6 = .ok (.aload_n 0, 1) := by decide +kernel
theorem dJ0_coder_7d493_7 : decode cJ0_coder_7d493 7 = .ok (.getfield 15, 3) := by decide +kernel
theorem dJ0_coder_7d493_10 : decode cJ0_coder_7d493 10 = .ok (.goto 4, 3) := by decide +kernel
theorem dJ0_coder_7d493_13 : decode cJ0_coder_7d493 13 = .ok (.iconst 1, 1) := by decide +kernel
theorem dJ0_coder_7d493_14 : decode cJ0_coder_7d493 14 = .ok (.ireturn, 1) := by decide +kernel
theorem dJ0_isLatin1_aae02_0 : decode cJ0_isLatin1_aae02 0 = .ok (.getstatic 38, 3) := by decide +kernel
theorem dJ0_isLatin1_aae02_3 : decode cJ0_isLatin1_aae02 3 = .ok (.ifCond .eq 14, 3) := by decide +kernel
theorem dJ0_isLatin1_aae02_6 : decode cJ0_isLatin1_aae02 6 = .ok (.aload_n 0, 1) := by decide +kernel
theorem dJ0_isLatin1_aae02_7 : decode cJ0_isLatin1_aae02 7 = .ok (.getfield 15, 3) := by decide +kernel
theorem dJ0_isLatin1_aae02_10 : decode cJ0_isLatin1_aae02 10 = .ok (.ifCond .ne 7, 3) := by decide +kernel
theorem dJ0_isLatin1_aae02_13 : decode cJ0_isLatin1_aae02 13 = .ok (.iconst 1, 1) := by decide +kernel
theorem dJ0_isLatin1_aae02_14 : decode cJ0_isLatin1_aae02 14 = .ok (.goto 4, 3) := by decide +kernel
theorem dJ0_isLatin1_aae02_17 : decode cJ0_isLatin1_aae02 17 = .ok (.iconst 0, 1) := by decide +kernel
theorem dJ0_isLatin1_aae02_18 : decode cJ0_isLatin1_aae02 18 = .ok (.ireturn, 1) := by decide +kernel
theorem dJ0_checkIndex_df160_0 : decode cJ0_checkIndex_df160 0 = .ok (.iload_n 0, 1) := by decide +kernel
theorem dJ0_checkIndex_df160_1 : decode cJ0_checkIndex_df160 1 = .ok (.iload_n 1, 1) := by decide +kernel
theorem dJ0_checkIndex_df160_2 : decode cJ0_checkIndex_df160 2 = .ok (.getstatic 1053, 3) := by decide +kernel
theorem dJ0_checkIndex_df160_5 : decode cJ0_checkIndex_df160 5 = .ok (.invokestatic 1059, 3) := by decide +kernel
theorem dJ0_checkIndex_df160_8 : decode cJ0_checkIndex_df160 8 = .ok (.pop, 1) := by decide +kernel
theorem dJ0_checkIndex_df160_9 : decode cJ0_checkIndex_df160 9 = .ok (.return_, 1) := by decide +kernel
theorem dJ1_charAt_3b067_0 : decode cJ1_charAt_3b067 0 = .ok (.iload_n 1, 1) := by decide +kernel
theorem dJ1_charAt_3b067_1 : decode cJ1_charAt_3b067 1 = .ok (.aload_n 0, 1) := by decide +kernel
theorem dJ1_charAt_3b067_2 : decode cJ1_charAt_3b067 2 = .ok (.arraylength, 1) := by decide +kernel
theorem dJ1_charAt_3b067_3 : decode cJ1_charAt_3b067 3 = .ok (.invokestatic 9, 3) := by decide +kernel
theorem dJ1_charAt_3b067_6 : decode cJ1_charAt_3b067 6 = .ok (.aload_n 0, 1) := by decide +kernel
theorem dJ1_charAt_3b067_7 : decode cJ1_charAt_3b067 7 = .ok (.iload_n 1, 1) := by decide +kernel
theorem dJ1_charAt_3b067_8 : decode cJ1_charAt_3b067 8 = .ok (.baload, 1) := by decide +kernel
theorem dJ1_charAt_3b067_9 : decode cJ1_charAt_3b067 9 = .ok (.sipush 255, 3) := by decide +kernel
theorem dJ1_charAt_3b067_12 : decode cJ1_charAt_3b067 12 = .ok (.iand, 1) := by decide +kernel
theorem dJ1_charAt_3b067_13 : decode cJ1_charAt_3b067 13 = .ok (.i2c, 1) := by decide +kernel
theorem dJ1_charAt_3b067_14 : decode cJ1_charAt_3b067 14 = .ok (.ireturn, 1) := by decide +kernel
theorem dJ3_checkIndex_8e157_0 : decode cJ3_checkIndex_8e157 0 = .ok (.iload_n 0, 1) := by decide +kernel
theorem dJ3_checkIndex_8e157_1 : decode cJ3_checkIndex_8e157 1 = .ok (.ifCond .lt 8, 3) := by decide +kernel
theorem dJ3_checkIndex_8e157_4 : decode cJ3_checkIndex_8e157 4 = .ok (.iload_n 0, 1) := by decide +kernel
theorem dJ3_checkIndex_8e157_5 : decode cJ3_checkIndex_8e157 5 = .ok (.iload_n 1, 1) := by decide +kernel
theorem dJ3_checkIndex_8e157_6 : decode cJ3_checkIndex_8e157 6 = .ok (.if_icmp .lt 10, 3) := by decide +kernel
theorem dJ3_checkIndex_8e157_9 : decode cJ3_checkIndex_8e157 9 = .ok (.aload_n 2, 1) := by decide +kernel
theorem dJ3_checkIndex_8e157_10 : decode cJ3_checkIndex_8e157 10 = .ok (.iload_n 0, 1) := by decide +kernel
theorem dJ3_checkIndex_8e157_11 : decode cJ3_checkIndex_8e157 11 = .ok (.iload_n 1, 1) := by decide +kernel
theorem dJ3_checkIndex_8e157_12 : decode cJ3_checkIndex_8e157 12 = .ok (.invokestatic 95, 3) := by decide +kernel
theorem dJ3_checkIndex_8e157_15 : decode cJ3_checkIndex_8e157 15 = .ok (.athrow, 1) := by decide +kernel
theorem dJ3_checkIndex_8e157_16 : decode cJ3_checkIndex_8e157 16 = .ok (.iload_n 0, 1) := by decide +kernel
theorem dJ3_checkIndex_8e157_17 : decode cJ3_checkIndex_8e157 17 = .ok (.ireturn, 1) := by decide +kernel
theorem gj_coder (i : Nat) (hi : i < ga_txs.length) : gj_C l D cA ad A adV yJ0_coder_7d493 (gb_ws yJ0_coder_7d493 cJ0_coder_7d493 1 (some .byte)) 0 [.ref (ad (1000 + i))] (some (.int 0)) := by
  refine vx_ofW (cc := cJ0_coder_7d493) (maxL := 1) (ret := some .byte) gj_pnJ0 rfl ?_
  intro p e s m args below meth c s₁ B hml hout hPc
  obtain ⟨rfl, hE⟩ := hPc
  have hx := B.exec
  have hb := B.bytes
  have hr := B.returns
  have hts := atoms_spec (ws := gb_ws yJ0_coder_7d493 cJ0_coder_7d493 1 (some .byte)) B.pre
  have hgood : ∀ w ∈ gb_good, w.before #[Value.ref (ad (1000 + i))] s = true := fun w h => hts w (gb_ws_good w h)
  have hown : s.vm.findClass RJ0 = some m.cls := findClass_of_methodNamed B.named
  have hlocks : meth.locks = false := B.notSynchronized
  have hS : va_S A s.heap s.heap [] := va_S.rf
  have hl := lv_entry ([.ref (ad (1000 + i))]) (n := 1) (Nat.le_of_ble_eq_true rfl)
  rw [lg_entry_eq]
  generalize (lg_sl ([.ref (ad (1000 + i))]) ++ List.replicate (1 - (lg_sl ([.ref (ad (1000 + i))])).length) Slot.unset).toArray = ls at hl ⊢
  have hl : lv_has ls 1 [(0, .ref (ad (1000 + i)))] := hl
  refine va_gets hx hb hE.2.2.2.2.2.2.2.1.1 hS hown (hgood _ (gb_w3 39 rfl rfl)) (fun _ h => h) dJ0_coder_7d493_0 ?_
  refine lv_if_eq hx hb dJ0_coder_7d493_3 (tgt := 13) (by decide) (fun z => absurd z (by decide)) (fun _ => ?_)
  refine lv_aload_n hx hb dJ0_coder_7d493_6 rfl (lv_at hl 0 rfl) ?_
  refine vk_getf hx hb (hE.2.2.2.2.2.2.2.2.1 i hi).2.1 hS hown (hgood _ (gb_w6 92 rfl rfl)) (fun _ h => h) dJ0_coder_7d493_7 ?_
  refine lv_goto hx hb dJ0_coder_7d493_10 (tgt := 14) (by decide) ?_
  exact gj_ret (ret := some .byte) hx hb hr (by decide) hlocks hS dJ0_coder_7d493_14
theorem gj_isLatin1 (i : Nat) (hi : i < ga_txs.length) : gj_C l D cA ad A adV yJ0_isLatin1_aae02 (gb_ws yJ0_isLatin1_aae02 cJ0_isLatin1_aae02 1 (some .boolean)) 0 [.ref (ad (1000 + i))] (some (.int 1)) := by
  refine vx_ofW (cc := cJ0_isLatin1_aae02) (maxL := 1) (ret := some .boolean) gj_pnJ0 rfl ?_
  intro p e s m args below meth c s₁ B hml hout hPc
  obtain ⟨rfl, hE⟩ := hPc
  have hx := B.exec
  have hb := B.bytes
  have hr := B.returns
  have hts := atoms_spec (ws := gb_ws yJ0_isLatin1_aae02 cJ0_isLatin1_aae02 1 (some .boolean)) B.pre
  have hgood : ∀ w ∈ gb_good, w.before #[Value.ref (ad (1000 + i))] s = true := fun w h => hts w (gb_ws_good w h)
  have hown : s.vm.findClass RJ0 = some m.cls := findClass_of_methodNamed B.named
  have hlocks : meth.locks = false := B.notSynchronized
  have hS : va_S A s.heap s.heap [] := va_S.rf
  have hl := lv_entry ([.ref (ad (1000 + i))]) (n := 1) (Nat.le_of_ble_eq_true rfl)
  rw [lg_entry_eq]
  generalize (lg_sl ([.ref (ad (1000 + i))]) ++ List.replicate (1 - (lg_sl ([.ref (ad (1000 + i))])).length) Slot.unset).toArray = ls at hl ⊢
  have hl : lv_has ls 1 [(0, .ref (ad (1000 + i)))] := hl
  refine va_gets hx hb hE.2.2.2.2.2.2.2.1.1 hS hown (hgood _ (gb_w3 39 rfl rfl)) (fun _ h => h) dJ0_isLatin1_aae02_0 ?_
  refine lv_if_eq hx hb dJ0_isLatin1_aae02_3 (tgt := 17) (by decide) (fun z => absurd z (by decide)) (fun _ => ?_)
  refine lv_aload_n hx hb dJ0_isLatin1_aae02_6 rfl (lv_at hl 0 rfl) ?_
  refine vk_getf hx hb (hE.2.2.2.2.2.2.2.2.1 i hi).2.1 hS hown (hgood _ (gb_w6 92 rfl rfl)) (fun _ h => h) dJ0_isLatin1_aae02_7 ?_
  refine lv_if_ne hx hb dJ0_isLatin1_aae02_10 (tgt := 17) (by decide) (fun z => absurd rfl z) (fun _ => ?_)
  refine lv_iconst (v := 1) hx hb dJ0_isLatin1_aae02_13 (by decide) ?_
  refine lv_goto hx hb dJ0_isLatin1_aae02_14 (tgt := 18) (by decide) ?_
  exact gj_ret (ret := some .boolean) hx hb hr (by decide) hlocks hS dJ0_isLatin1_aae02_18
theorem gj_check3 (i n : Int32) (f : Value) (hf : f.category = 1) (h0 : ¬ i < 0) (h1 : i < n) : gj_C l D cA ad A adV yJ3_checkIndex_8e157 (gb_ws yJ3_checkIndex_8e157 cJ3_checkIndex_8e157 3 (some .int)) 0 [.int i, .int n, f] (some (.int i)) := by
  refine vx_ofW (cc := cJ3_checkIndex_8e157) (maxL := 3) (ret := some .int) gj_pnJ3 rfl ?_
  intro p e s m args below meth c s₁ B hml hout hPc
  obtain ⟨rfl, hE⟩ := hPc
  have hx := B.exec
  have hb := B.bytes
  have hr := B.returns
  have hlocks : meth.locks = false := B.notSynchronized
  have hS : va_S A s.heap s.heap [] := va_S.rf
  have hl := lv_entry ([.int i, .int n, f]) (n := 3) (by
    have : lg_sl [.int i, .int n, f] = [Slot.val (.int i), Slot.val (.int n), Slot.val f] := by
      cases f <;> first | rfl | cases hf
    rw [this]; exact Nat.le_of_ble_eq_true rfl)
  rw [lg_entry_eq]
  generalize (lg_sl ([.int i, .int n, f]) ++ List.replicate (3 - (lg_sl ([.int i, .int n, f])).length) Slot.unset).toArray = ls at hl ⊢
  have hl : lv_has ls 3 [(0, .int i), (1, .int n)] := ⟨hl.1, hl.2.1, fun q hq => hl.2.2 q (by
    rcases List.mem_cons.mp hq with rfl | hq
    · exact List.mem_cons_self
    · rcases List.mem_cons.mp hq with rfl | hq
      · exact List.mem_cons_of_mem _ List.mem_cons_self
      · cases hq)⟩
  refine lv_iload_n hx hb dJ3_checkIndex_8e157_0 rfl (lv_at hl 0 rfl) ?_
  refine lv_if_lt hx hb dJ3_checkIndex_8e157_1 (tgt := 9) (by decide) (fun z => absurd z h0) (fun _ => ?_)
  refine lv_iload_n hx hb dJ3_checkIndex_8e157_4 rfl (lv_at hl 0 rfl) ?_
  refine lv_iload_n hx hb dJ3_checkIndex_8e157_5 rfl (lv_at hl 1 rfl) ?_
  refine lv_icmp_lt hx hb dJ3_checkIndex_8e157_6 (tgt := 16) (by decide) (fun _ => ?_) (fun z => absurd h1 z)
  refine lv_iload_n hx hb dJ3_checkIndex_8e157_16 rfl (lv_at hl 0 rfl) ?_
  exact vx_ret (W.iret hx hb hr (fun t ht _ => ⟨rfl, ht⟩) hS.2.2 dJ3_checkIndex_8e157_17 hlocks)
theorem gj_check0 (i n : Int32) (h0 : ¬ i < 0) (h1 : i < n) : gj_C l D cA ad A adV yJ0_checkIndex_df160 (gb_ws yJ0_checkIndex_df160 cJ0_checkIndex_df160 2 none) 1 [.int i, .int n] none := by
  refine vx_ofW (cc := cJ0_checkIndex_df160) (maxL := 2) (ret := none) gj_pnJ0 rfl ?_
  intro p e s m args below meth c s₁ B hml hout hPc
  obtain ⟨rfl, hE⟩ := hPc
  have hx := B.exec
  have hb := B.bytes
  have hr := B.returns
  have hts := atoms_spec (ws := gb_ws yJ0_checkIndex_df160 cJ0_checkIndex_df160 2 none) B.pre
  have hgood : ∀ w ∈ gb_good, w.before #[Value.int i, Value.int n] s = true := fun w h => hts w (gb_ws_good w h)
  have hown : s.vm.findClass RJ0 = some m.cls := findClass_of_methodNamed B.named
  have hlocks : meth.locks = false := B.notSynchronized
  have hS : va_S A s.heap s.heap [] := va_S.rf
  have hl := lv_entry ([.int i, .int n]) (n := 2) (Nat.le_of_ble_eq_true rfl)
  rw [lg_entry_eq]
  generalize (lg_sl ([.int i, .int n]) ++ List.replicate (2 - (lg_sl ([.int i, .int n])).length) Slot.unset).toArray = ls at hl ⊢
  have hl : lv_has ls 2 [(0, .int i), (1, .int n)] := hl
  have fin : ∀ f : Value, f.category = 1 → W p l e (gb_rm 1 0 0) s m #[Value.int i, Value.int n] below meth c s.heap [] 0 0 (vx_MQ below (gj_Qc none) (fun _ _ _ => False) #[Value.int i, Value.int n] s 0 0 A) (F0 m 5 ls [f, .int n, .int i]) := by
    intro f hf
    refine gj_callS (As := [.int i, .int n, f]) (r := []) (lv := 0) (y0 := yJ0_checkIndex_df160) (ret0 := none) (n := 3) (Nat.le_refl _) (by decide) hx hb hml hown hts hE (gj_check3 i n f hf h0 h1) (gb_w3 59 rfl rfl) (gb_w1 15 rfl rfl) (gb_w3 57 rfl rfl) (gb_w3 58 rfl rfl) gj_nmJ3 (by decide +kernel) rfl hS (hl.1) (by decide) dJ0_checkIndex_df160_5 (fun locs1 hS1 => ?_)
    refine lv_pop hx hb dJ0_checkIndex_df160_8 rfl ?_
    exact vx_ret (W.vret hx hb hr (fun t ht _ => ⟨rfl, ht⟩) hS1.2.2 dJ0_checkIndex_df160_9 hlocks)
  refine lv_iload_n hx hb dJ0_checkIndex_df160_0 rfl (lv_at hl 0 rfl) ?_
  refine lv_iload_n hx hb dJ0_checkIndex_df160_1 rfl (lv_at hl 1 rfl) ?_
  rcases hE.2.2.2.2.2.2.2.1.2.1 with hZ | ⟨t, hZ⟩
  · refine va_gets hx hb hZ hS hown (hgood _ (gb_w3 55 rfl rfl)) (fun _ h => h) dJ0_checkIndex_df160_2 ?_
    exact fin _ rfl
  · refine va_gets hx hb hZ hS hown (hgood _ (gb_w3 55 rfl rfl)) (fun _ h => h) dJ0_checkIndex_df160_2 ?_
    exact fin _ rfl
theorem gj_ch : ∀ n, n < 128 → ((nI n &&& 255).toUInt32 % 65536).toInt32 = nI n ∧ narrow .char (.int (nI n)) = .int (nI n) := by decide +kernel
theorem gj_txs : ga_txs.all (fun t => t.all (fun n => Nat.blt n 128) && Nat.blt t.length 1000) = true := by decide +kernel
theorem gj_tx {i : Nat} (hi : i < ga_txs.length) : (ga_txs.getD i []).length < 1000 ∧ ∀ k, (ga_txs.getD i []).getD k 0 < 128 := by
  have h := List.all_eq_true.mp gj_txs (ga_txs.getD i []) (by rw [List.getD_eq_getElem?_getD, List.getElem?_eq_getElem hi]; exact List.getElem_mem hi)
  obtain ⟨h1, h2⟩ := Bool.and_eq_true_iff.mp h
  refine ⟨Nat.le_of_ble_eq_true h2, fun k => ?_⟩
  rw [List.getD_eq_getElem?_getD]
  cases hk : (ga_txs.getD i [])[k]? with
  | none => decide
  | some n => exact Nat.le_of_ble_eq_true (List.all_eq_true.mp h1 n (List.mem_of_getElem? hk))
theorem gj_charAt1 (i k : Nat) (hi : i < ga_txs.length) (hk : k < (ga_txs.getD i []).length) : gj_C l D cA ad A adV yJ1_charAt_3b067 (gb_ws yJ1_charAt_3b067 cJ1_charAt_3b067 2 (some .char)) 2 [.ref (adV i), .int (nI k)] (some (.int (nI ((ga_txs.getD i []).getD k 0)))) := by
  obtain ⟨hlen, hch⟩ := gj_tx hi
  refine vx_ofW (cc := cJ1_charAt_3b067) (maxL := 2) (ret := some .char) gj_pnJ1 rfl ?_
  intro p e s m args below meth c s₁ B hml hout hPc
  obtain ⟨rfl, hE⟩ := hPc
  have hx := B.exec
  have hb := B.bytes
  have hr := B.returns
  have hts := atoms_spec (ws := gb_ws yJ1_charAt_3b067 cJ1_charAt_3b067 2 (some .char)) B.pre
  have hown : s.vm.findClass RJ1 = some m.cls := findClass_of_methodNamed B.named
  have hlocks : meth.locks = false := B.notSynchronized
  have hS : va_S A s.heap s.heap [] := va_S.rf
  have hl := lv_entry ([.ref (adV i), .int (nI k)]) (n := 2) (Nat.le_of_ble_eq_true rfl)
  rw [lg_entry_eq]
  generalize (lg_sl ([.ref (adV i), .int (nI k)]) ++ List.replicate (2 - (lg_sl ([.ref (adV i), .int (nI k)])).length) Slot.unset).toArray = ls at hl ⊢
  have hl : lv_has ls 2 [(0, .ref (adV i)), (1, .int (nI k))] := hl
  have hT := (hE.2.2.2.2.2.2.2.2.1 i hi).2.2.2
  refine lv_iload_n hx hb dJ1_charAt_3b067_0 rfl (lv_at hl 1 rfl) ?_
  refine lv_aload_n hx hb dJ1_charAt_3b067_1 rfl (lv_at hl 0 rfl) ?_
  refine va_tlen hx hb hT hS rfl dJ1_charAt_3b067_2 ?_
  refine gj_callS (As := [.int (nI k), .int (Int32.ofNat (ga_txs.getD i []).length)]) (r := []) (lv := 1) (y0 := yJ1_charAt_3b067) (ret0 := some .char) (n := 2) (Nat.le_refl _) (by decide) hx hb hml hown hts hE (gj_check0 _ _ (nI_pos (by omega)) (nI_lt hk (by omega))) (gb_w3 54 rfl rfl) (gb_w1 13 rfl rfl) (gb_w3 52 rfl rfl) (gb_w3 53 rfl rfl) gb_nmJ0 (by decide +kernel) rfl hS (hl.1) (by decide) dJ1_charAt_3b067_3 (fun locs1 hS1 => ?_)
  refine lv_aload_n hx hb dJ1_charAt_3b067_6 rfl (lv_at hl 0 rfl) ?_
  refine lv_iload_n hx hb dJ1_charAt_3b067_7 rfl (lv_at hl 1 rfl) ?_
  refine va_tb hx hb hT hS1 (i := nI k) (vp_in_nI hk (by omega)) (v := .int (nI ((ga_txs.getD i []).getD k 0))) (by rw [nI_clamp (by omega)]; rfl) dJ1_charAt_3b067_8 ?_
  refine lv_sipush (v := 255) hx hb dJ1_charAt_3b067_9 (by decide) ?_
  refine lv_iand hx hb dJ1_charAt_3b067_12 ?_
  refine lv_i2c hx hb dJ1_charAt_3b067_13 (gj_ch _ (hch k)).1 ?_
  exact gj_ret (ret := some .char) hx hb hr (gj_ch _ (hch k)).2 hlocks hS1 dJ1_charAt_3b067_14
end GJ1
section GJ2
variable {l : Launch} {D : va_G} {cA : Nat → ClassId} {ad : Nat → Nat} {A : Nat → Prop} {adV : Nat → Nat}
theorem gj_sl {w : Nat} {σ : ga_M} {x : Int32} (h : ga_sl w σ = some x) : ∃ i, i < ga_txs.length ∧ w = 1000 + i ∧ x = nI (ga_txs.getD i []).length := by
  unfold ga_sl ga_tx at h
  split at h
  · cases h
  · rename_i hw
    cases ht : ga_txs[w - 1000]? with
    | none => rw [ht] at h; cases h
    | some t =>
      rw [ht] at h
      have hi := (List.getElem?_eq_some_iff.mp ht).1
      refine ⟨w - 1000, hi, by omega, ?_⟩
      rw [List.getD_eq_getElem?_getD, ht]
      exact (Option.some.inj h).symm
theorem gj_sc {w : Nat} {σ : ga_M} {k x : Int32} (h : ga_sc w k σ = some x) : ∃ i j, i < ga_txs.length ∧ w = 1000 + i ∧ j < (ga_txs.getD i []).length ∧ k = nI j ∧ x = nI ((ga_txs.getD i []).getD j 0) := by
  unfold ga_sc ga_tx at h
  split at h
  · cases h
  · rename_i hw
    cases ht : ga_txs[w - 1000]? with
    | none => rw [ht] at h; cases h
    | some t =>
      rw [ht] at h
      have hi := (List.getElem?_eq_some_iff.mp ht).1
      have hD : ga_txs.getD (w - 1000) [] = t := by rw [List.getD_eq_getElem?_getD, ht]; rfl
      have h : (if k < 0 ∨ t.length ≤ k.toNatClampNeg then none else some (Int32.ofNat (t.getD k.toNatClampNeg 0))) = some x := h
      split at h
      · cases h
      · rename_i hk
        obtain ⟨j, hj, rfl⟩ := nI_of (fun z => hk (Or.inl z))
        rw [nI_clamp hj] at h hk
        refine ⟨w - 1000, j, hi, by omega, by rw [hD]; omega, rfl, ?_⟩
        rw [hD]
        exact (Option.some.inj h).symm
theorem gj_len (i : Nat) (hi : i < ga_txs.length) (S : ga_S) (σ : ga_M) : gb_C l D cA ad A adV yJ0_length_8abf5 (gb_ws yJ0_length_8abf5 cJ0_length_8abf5 1 (some .int)) 2 0 0 [.ref (1000 + i)] S σ (.inl (some (.int (nI (ga_txs.getD i []).length))), S, σ) := by
  obtain ⟨hlen, hch⟩ := gj_tx hi
  refine vx_ofW (cc := cJ0_length_8abf5) (maxL := 1) (ret := some .int) gj_pnJ0 rfl ?_
  intro p e s m args below meth c s₁ B hml hout hPc
  obtain ⟨rfl, hP, hE⟩ := hPc
  have hx := B.exec
  have hb := B.bytes
  have hr := B.returns
  have hts := atoms_spec (ws := gb_ws yJ0_length_8abf5 cJ0_length_8abf5 1 (some .int)) B.pre
  show W p l e (gb_rm 2 0 0) s m #[Value.ref (ad (1000 + i))] below meth c s.heap [] 0 0 _ (entryFrame m ([.ref (ad (1000 + i))] : List Value).toArray 1)
  have hgood : ∀ w ∈ gb_good, w.before #[Value.ref (ad (1000 + i))] s = true := fun w h => hts w (gb_ws_good w h)
  have hown : s.vm.findClass RJ0 = some m.cls := findClass_of_methodNamed B.named
  have hlocks : meth.locks = false := B.notSynchronized
  have hS : va_S A s.heap s.heap [] := va_S.rf
  have hl := lv_entry ([.ref (ad (1000 + i))]) (n := 1) (Nat.le_of_ble_eq_true rfl)
  rw [lg_entry_eq]
  generalize (lg_sl ([.ref (ad (1000 + i))]) ++ List.replicate (1 - (lg_sl ([.ref (ad (1000 + i))])).length) Slot.unset).toArray = ls at hl ⊢
  have hl : lv_has ls 1 [(0, .ref (ad (1000 + i)))] := hl
  have hST := hE.2.2.2.2.2.2.2.2.1 i hi
  have hrec : ∃ cellB : Cell, s.heap[ad (1000 + i)]? = some cellB ∧ cellB.vm.isStatics = false ∧ s.vm.findClass RJ0 = some cellB.cls := by
    obtain ⟨cell, h3, h4, h5, -⟩ := hST.1
    exact ⟨cell, h3, h4, h5⟩
  refine lv_aload_n hx hb dJ0_length_8abf5_0 rfl (lv_at hl 0 rfl) ?_
  refine vk_getf hx hb hST.2.2.1 hS hown (hgood _ (gb_w6 91 rfl rfl)) (fun _ h => h) dJ0_length_8abf5_1 ?_
  refine va_tlen hx hb hST.2.2.2 hS rfl dJ0_length_8abf5_4 ?_
  refine lv_aload_n hx hb dJ0_length_8abf5_5 rfl (lv_at hl 0 rfl) ?_
  refine gj_callV (As := []) (r := [.int (Int32.ofNat (ga_txs.getD i []).length)]) (lv := 0) (y0 := yJ0_length_8abf5) (ret0 := some .int) (n := 0) (by decide) (by decide) hx hb hml hown hts hE (gj_coder i hi) (gb_w3 38 rfl rfl) (gb_w1 13 rfl rfl) (gb_w3 35 rfl rfl) (gb_w3 36 rfl rfl) (gb_w3 37 rfl rfl) gb_nmJ0 (by decide +kernel) rfl hrec hS hl.1 (by show 1 ≤ 8; decide) dJ0_length_8abf5_6 (fun locs1 hS1 => ?_)
  refine lv_ishr hx hb dJ0_length_8abf5_9 ?_
  have e0 : Int32.ofNat (ga_txs.getD i []).length >>> ((0 : Int32) &&& 31) = nI (ga_txs.getD i []).length := by
    show nI _ >>> _ = _
    rw [pk_shrN (by omega) _ 0 (by decide)]
    simp
  rw [e0]
  exact vx_ret (W.iret hx hb hr (fun t ht _ => ⟨⟨_, rfl, rfl, by rw [ht]; exact hP⟩, by rw [va_F, ht]; exact ⟨Nat.le_refl _, fun _ _ _ => rfl⟩⟩) hS1.2.2 dJ0_length_8abf5_10 hlocks)
theorem gj_char (i k : Nat) (hi : i < ga_txs.length) (hk : k < (ga_txs.getD i []).length) (S : ga_S) (σ : ga_M) : gb_C l D cA ad A adV yJ0_charAt_5068e (gb_ws yJ0_charAt_5068e cJ0_charAt_5068e 2 (some .char)) 4 0 0 [.ref (1000 + i), .int (nI k)] S σ (.inl (some (.int (nI ((ga_txs.getD i []).getD k 0)))), S, σ) := by
  obtain ⟨hlen, hch⟩ := gj_tx hi
  refine vx_ofW (cc := cJ0_charAt_5068e) (maxL := 2) (ret := some .char) gj_pnJ0 rfl ?_
  intro p e s m args below meth c s₁ B hml hout hPc
  obtain ⟨rfl, hP, hE⟩ := hPc
  have hx := B.exec
  have hb := B.bytes
  have hr := B.returns
  have hts := atoms_spec (ws := gb_ws yJ0_charAt_5068e cJ0_charAt_5068e 2 (some .char)) B.pre
  show W p l e (gb_rm 4 0 0) s m #[Value.ref (ad (1000 + i)), Value.int (nI k)] below meth c s.heap [] 0 0 _ (entryFrame m ([.ref (ad (1000 + i)), .int (nI k)] : List Value).toArray 2)
  have hgood : ∀ w ∈ gb_good, w.before #[Value.ref (ad (1000 + i)), Value.int (nI k)] s = true := fun w h => hts w (gb_ws_good w h)
  have hown : s.vm.findClass RJ0 = some m.cls := findClass_of_methodNamed B.named
  have hlocks : meth.locks = false := B.notSynchronized
  have hS : va_S A s.heap s.heap [] := va_S.rf
  have hl := lv_entry ([.ref (ad (1000 + i)), .int (nI k)]) (n := 2) (Nat.le_of_ble_eq_true rfl)
  rw [lg_entry_eq]
  generalize (lg_sl ([.ref (ad (1000 + i)), .int (nI k)]) ++ List.replicate (2 - (lg_sl ([.ref (ad (1000 + i)), .int (nI k)])).length) Slot.unset).toArray = ls at hl ⊢
  have hl : lv_has ls 2 [(0, .ref (ad (1000 + i))), (1, .int (nI k))] := hl
  have hST := hE.2.2.2.2.2.2.2.2.1 i hi
  have hrec : ∃ cellB : Cell, s.heap[ad (1000 + i)]? = some cellB ∧ cellB.vm.isStatics = false ∧ s.vm.findClass RJ0 = some cellB.cls := by
    obtain ⟨cell, h3, h4, h5, -⟩ := hST.1
    exact ⟨cell, h3, h4, h5⟩
  refine lv_aload_n hx hb dJ0_charAt_5068e_0 rfl (lv_at hl 0 rfl) ?_
  refine gj_callV (As := []) (r := []) (lv := 0) (y0 := yJ0_charAt_5068e) (ret0 := some .char) (n := 0) (by decide) (by decide) hx hb hml hown hts hE (gj_isLatin1 i hi) (gb_w3 48 rfl rfl) (gb_w1 13 rfl rfl) (gb_w3 45 rfl rfl) (gb_w3 46 rfl rfl) (gb_w3 47 rfl rfl) gb_nmJ0 (by decide +kernel) rfl hrec hS hl.1 (by decide) dJ0_charAt_5068e_1 (fun locs1 hS1 => ?_)
  refine lv_if_eq hx hb dJ0_charAt_5068e_4 (tgt := 16) (by decide) (fun z => absurd z (by decide)) (fun _ => ?_)
  refine lv_aload_n hx hb dJ0_charAt_5068e_7 rfl (lv_at hl 0 rfl) ?_
  refine vk_getf hx hb hST.2.2.1 hS1 hown (hgood _ (gb_w6 91 rfl rfl)) (fun _ h => h) dJ0_charAt_5068e_8 ?_
  refine lv_iload_n hx hb dJ0_charAt_5068e_11 rfl (lv_at hl 1 rfl) ?_
  refine gj_callS (As := [.ref (adV i), .int (nI k)]) (r := []) (lv := 2) (y0 := yJ0_charAt_5068e) (ret0 := some .char) (n := 2) (by decide) (by decide) hx hb hml hown hts hE (gj_charAt1 i k hi hk) (gb_w3 51 rfl rfl) (gb_w1 14 rfl rfl) (gb_w3 49 rfl rfl) (gb_w3 50 rfl rfl) gj_nmJ1 (by decide +kernel) rfl hS1 (hl.1) (by decide) dJ0_charAt_5068e_12 (fun locs2 hS2 => ?_)
  exact vx_ret (W.zret hx hb hr (gj_ch _ (hch k)).2 (fun t ht _ => ⟨⟨_, rfl, rfl, by rw [ht]; exact hP⟩, by rw [va_F, ht]; exact ⟨Nat.le_refl _, fun _ _ _ => rfl⟩⟩) hS2.2.2 dJ0_charAt_5068e_15 hlocks)
/-- the five that are proved by hand -/
theorem gm_4 (hl : l.stackTraces = false) : gc_MM l D cA ad A adV 4 := by
  refine ⟨gb_T4, fun _ as S σ o hg => ?_, fun as σ o hg => ?_⟩
  · replace hg : c_J0_length_8abf5 as S σ some = some o := hg
    unfold c_J0_length_8abf5 at hg
    split at hg
    · rename_i w
      obtain ⟨x, hx, hg⟩ := gc_bind hg
      obtain ⟨i, hi, rfl, -⟩ := gj_sl hx
      exact ⟨i, [], rfl, hi⟩
    · cases hg
  · replace hg : c_J0_length_8abf5 as gaSH σ some = some o := hg
    unfold c_J0_length_8abf5 at hg
    split at hg
    · rename_i w
      obtain ⟨x, hx, hg⟩ := gc_bind hg
      obtain ⟨i, hi, rfl, rfl⟩ := gj_sl hx
      obtain rfl := Option.some.inj hg
      exact gj_len i hi gaSH σ
    · cases hg
theorem gm_5 (hl : l.stackTraces = false) : gc_MM l D cA ad A adV 5 := by
  refine ⟨gb_T5, fun _ as S σ o hg => ?_, fun as σ o hg => ?_⟩
  · replace hg : c_J0_charAt_5068e as S σ some = some o := hg
    unfold c_J0_charAt_5068e at hg
    split at hg
    · rename_i w k
      obtain ⟨x, hx, hg⟩ := gc_bind hg
      obtain ⟨i, j, hi, rfl, -⟩ := gj_sc hx
      exact ⟨i, _, rfl, hi⟩
    · cases hg
  · replace hg : c_J0_charAt_5068e as gaSH σ some = some o := hg
    unfold c_J0_charAt_5068e at hg
    split at hg
    · rename_i w k
      obtain ⟨x, hx, hg⟩ := gc_bind hg
      obtain ⟨i, j, hi, rfl, hj, rfl, rfl⟩ := gj_sc hx
      obtain rfl := Option.some.inj hg
      exact gj_char i j hi hj gaSH σ
    · cases hg
end GJ2
section GX7
variable {l : Launch} {D : va_G} {cA : Nat → ClassId} {ad : Nat → Nat} {A : Nat → Prop} {adV : Nat → Nat}
/-- small arrays -/
def gx_sm (S : ga_S) : Prop := ∀ (a kd n : Nat), S[a]? = some (.inr (kd, n)) → n < 2147483648
theorem gx_sm_of {S : ga_S} (h : S.all (fun q => match q with
    | .inr z => Nat.blt z.2 2147483648
    | .inl _ => true) = true) : gx_sm S := fun a kd n ha => Nat.le_of_ble_eq_true (List.all_eq_true.mp h _ (List.mem_of_getElem? ha))
theorem gx_sH : gx_sm gaSH := gx_sm_of (by decide +kernel)
theorem gc_rk_X6_at : cl_X6_at.all (gb_rk gb_flX6 gb_slX6 gb_nlX6 gb_llX6 gb_tlX6 cX6_at) = true := by decide +kernel
theorem gc_rk_X6_put : cl_X6_put.all (gb_rk gb_flX6 gb_slX6 gb_nlX6 gb_llX6 gb_tlX6 cX6_put) = true := by decide +kernel
theorem gc_rk_X6_become : cl_X6_become.all (gb_rk gb_flX6 gb_slX6 gb_nlX6 gb_llX6 gb_tlX6 cX6_become) = true := by decide +kernel
theorem gc_ck_X6_at : cl_X6_at.all (gc_ck gb_lkX6 gb_lnX6 [] 0) = true := by decide +kernel
theorem gc_ck_X6_put : cl_X6_put.all (gc_ck gb_lkX6 gb_lnX6 [] 0) = true := by decide +kernel
theorem gc_ck_X6_become : cl_X6_become.all (gc_ck gb_lkX6 gb_lnX6 [1] 1) = true := by decide +kernel
theorem gc_pnX6 : plainName RX6 = true := by decide +kernel
theorem gx_at (hl : l.stackTraces = false) {S : ga_S} (hS : gx_sm S) {as : List Value} {σ : ga_M} {o : ga_O} (hg : c_X6_at as S σ some = some o) : gb_C l D cA ad A adV yX6_at (gb_ws yX6_at cX6_at 2 (some .int)) 0 0 0 as S σ o := by
  unfold c_X6_at at hg
  split at hg
  · rename_i r i
    split at hg
    · rename_i a h1
      split at hg
      · rename_i n h2
        obtain rfl := Option.some.inj hg
        exact gb_met (g := gaGP) (cost := gaCost) (maxL := 2) (lf := true) (wr := false) (PS := fun S' σ' => S' = S ∧ σ' = σ) hl gc_pnX6 rfl gb_oX6 gc_rk_X6_at
          (gc_hlk (S0 := S) gb_nX6 (ms := []) (fun _ h => nomatch h) (fun _ _ _ _ o h => gf_GP _ _ _ _ o h) gf_398P gf_399P (fun _ _ h => h.1) gc_ck_X6_at) (t_X6_at (hS a 0 n h2) h1 h2 i σ) ⟨rfl, rfl⟩ (fun h => nomatch h)
          (fun mid as S σ o h hg => ⟨(ge_at (ge_GP mid as S σ) hg).1.trans h.1, (ge_at (ge_GP mid as S σ) hg).2.trans h.2⟩)
          (fun α mid as S σ k o h => (ge_GP mid as S σ α k o h).elim fun o1 h1 => ⟨o1, h1.2⟩) gd_hoI (fun _ h => nomatch h) (fun v hv => by cases hv; exact Or.inl rfl) (Nat.le_of_ble_eq_true rfl) rfl
      · cases hg
    · cases hg
  · cases hg
theorem gx_put (hl : l.stackTraces = false) {S : ga_S} (hS : gx_sm S) {as : List Value} {σ : ga_M} {o : ga_O} (hg : c_X6_put as S σ some = some o) : gb_C l D cA ad A adV yX6_put (gb_ws yX6_put cX6_put 3 none) 0 0 0 as S σ o := by
  unfold c_X6_put at hg
  split at hg
  · rename_i r i x
    split at hg
    · rename_i a h1
      split at hg
      · rename_i n h2
        obtain rfl := Option.some.inj hg
        exact gb_met (g := gaG) (cost := gaCost) (maxL := 3) (lf := true) (wr := true) (PS := fun S' _ => S' = S) hl gc_pnX6 rfl gb_oX6 gc_rk_X6_put
          (gc_hlk (S0 := S) gb_nX6 (ms := []) (fun _ h => nomatch h) (fun _ _ _ _ _ h => h) gf_398 gf_399 (fun _ _ h => h) gc_ck_X6_put) (t_X6_put (hS a 0 n h2) h1 h2 i x σ) rfl (fun _ _ _ _ h => h)
          (fun mid as S σ o h hg => (ge_at (ge_G mid as S σ) hg).trans h)
          (fun α mid as S σ k o h => (ge_G mid as S σ α k o h).elim fun o1 h1 => ⟨o1, h1.2⟩) gc_hoV (fun _ h => nomatch h) (fun v hv => by cases hv; rfl) (Nat.le_of_ble_eq_true rfl) rfl
      · cases hg
    · cases hg
  · cases hg
theorem gm_1 (hl : l.stackTraces = false) : gc_MM l D cA ad A adV 1 := ⟨gb_T1, fun h => absurd h (by decide +kernel), fun as σ o hg => gx_at hl gx_sH hg⟩
theorem gm_2 (hl : l.stackTraces = false) : gc_MM l D cA ad A adV 2 := ⟨gb_T2, fun h => absurd h (by decide +kernel), fun as σ o hg => gx_put hl gx_sH hg⟩
theorem gx_become (hl : l.stackTraces = false) {as : List Value} {σ : ga_M} {o : ga_O} (hg : c_X6_become as gaSH σ some = some o) : gb_C l D cA ad A adV yX6_become (gb_ws yX6_become cX6_become 3 none) 1 0 0 as gaSH σ o := by
  unfold c_X6_become at hg
  split at hg
  · rename_i r q
    split at hg
    · rename_i a h1
      split at hg
      · rename_i n h2
        split at hg
        · rename_i b h3
          split at hg
          · rename_i n2 h4
            obtain rfl := Option.some.inj hg
            have hM : ∀ mid ∈ ([1] : List Nat), gc_MM l D cA ad A adV mid := List.forall_mem_cons.mpr ⟨gm_1 hl, fun _ h => nomatch h⟩
            exact gb_met (g := gaG) (cost := gaCost) (maxL := 3) (lf := true) (wr := true) (PS := fun S' _ => S' = gaSH) hl gc_pnX6 rfl gb_oX6 gc_rk_X6_become
              (gc_hlk (S0 := gaSH) gb_nX6 (ms := [1]) hM (fun _ _ _ _ _ h => h) gf_398 gf_399 (fun _ _ h => h) gc_ck_X6_become) (t_X6_become (gx_sH a 0 n h2) h1 h2 h3 h4 σ) rfl (fun _ _ _ _ h => h)
              (fun mid as S σ o h hg => (ge_at (ge_G mid as S σ) hg).trans h)
              (fun α mid as S σ k o h => (ge_G mid as S σ α k o h).elim fun o1 h1 => ⟨o1, h1.2⟩) gc_hoV (fun _ h => nomatch h) (fun v hv => by cases hv; rfl) (Nat.le_of_ble_eq_true rfl) rfl
          · cases hg
        · cases hg
      · cases hg
    · cases hg
  · cases hg
theorem gm_3 (hl : l.stackTraces = false) : gc_MM l D cA ad A adV 3 := ⟨gb_T3, fun h => absurd h (by decide +kernel), fun as σ o hg => gx_become hl hg⟩
end GX7
end
