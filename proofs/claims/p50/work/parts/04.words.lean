section GA2
variable {α : Type}
/-! what each small word says -/
theorem ga_pI_s {sw : List (Int32 × Nat)} {k : Int32 → Option α} {o : α} (h : ga_pI sw k = some o) : ∃ q r, sw = q :: r ∧ k q.1 = some o := by
  cases sw with
  | nil => cases h
  | cons q r => exact ⟨q, r, rfl, h⟩
theorem ga_ldc_s {sw : List (Int32 × Nat)} {r1 : Nat} {k : Value → Option α} {o : α} (h : ga_ldc sw r1 k = some o) : (sw = [] ∧ k (.ref r1) = some o) ∨ ∃ q r, sw = q :: r ∧ k (.int q.1) = some o := by
  cases sw with
  | nil => exact Or.inl ⟨rfl, h⟩
  | cons q r => exact Or.inr ⟨q, r, rfl, h⟩
theorem ga_iL_s {L : ga_Lo} {i : Nat} {k : Int32 → Option α} {o : α} (h : ga_iL L i k = some o) : ∃ x, L[i]? = some (some (.int x)) ∧ k x = some o := by
  unfold ga_iL at h
  split at h
  · exact ⟨_, ‹_›, h⟩
  · cases h
theorem ga_jL_s {L : ga_Lo} {i : Nat} {k : Int64 → Option α} {o : α} (h : ga_jL L i k = some o) : ∃ x, L[i]? = some (some (.long x)) ∧ k x = some o := by
  unfold ga_jL at h
  split at h
  · exact ⟨_, ‹_›, h⟩
  · cases h
theorem ga_dL_s {L : ga_Lo} {i : Nat} {k : UInt64 → Option α} {o : α} (h : ga_dL L i k = some o) : ∃ x, L[i]? = some (some (.double x)) ∧ k x = some o := by
  unfold ga_dL at h
  split at h
  · exact ⟨_, ‹_›, h⟩
  · cases h
theorem ga_aL_s {L : ga_Lo} {i : Nat} {k : Nat → Option α} {o : α} (h : ga_aL L i k = some o) : ∃ x, L[i]? = some (some (.ref x)) ∧ k x = some o := by
  unfold ga_aL at h
  split at h
  · exact ⟨_, ‹_›, h⟩
  · cases h
theorem ga_i1_s {st : List Value} {k : Int32 → List Value → Option α} {o : α} (h : ga_i1 st k = some o) : ∃ x r, st = .int x :: r ∧ k x r = some o := by
  unfold ga_i1 at h
  split at h
  · exact ⟨_, _, rfl, h⟩
  · cases h
theorem ga_j1_s {st : List Value} {k : Int64 → List Value → Option α} {o : α} (h : ga_j1 st k = some o) : ∃ x r, st = .long x :: r ∧ k x r = some o := by
  unfold ga_j1 at h
  split at h
  · exact ⟨_, _, rfl, h⟩
  · cases h
theorem ga_d1_s {st : List Value} {k : UInt64 → List Value → Option α} {o : α} (h : ga_d1 st k = some o) : ∃ x r, st = .double x :: r ∧ k x r = some o := by
  unfold ga_d1 at h
  split at h
  · exact ⟨_, _, rfl, h⟩
  · cases h
theorem ga_a1_s {st : List Value} {k : Nat → List Value → Option α} {o : α} (h : ga_a1 st k = some o) : ∃ x r, st = .ref x :: r ∧ k x r = some o := by
  unfold ga_a1 at h
  split at h
  · exact ⟨_, _, rfl, h⟩
  · cases h
theorem ga_i2_s {st : List Value} {k : Int32 → Int32 → List Value → Option α} {o : α} (h : ga_i2 st k = some o) : ∃ x y r, st = .int y :: .int x :: r ∧ k x y r = some o := by
  obtain ⟨y, r1, e1, h1⟩ := ga_i1_s h
  obtain ⟨x, r2, e2, h2⟩ := ga_i1_s h1
  exact ⟨x, y, r2, by rw [e1, e2], h2⟩
theorem ga_j2_s {st : List Value} {k : Int64 → Int64 → List Value → Option α} {o : α} (h : ga_j2 st k = some o) : ∃ x y r, st = .long y :: .long x :: r ∧ k x y r = some o := by
  obtain ⟨y, r1, e1, h1⟩ := ga_j1_s h
  obtain ⟨x, r2, e2, h2⟩ := ga_j1_s h1
  exact ⟨x, y, r2, by rw [e1, e2], h2⟩
theorem ga_d2_s {st : List Value} {k : UInt64 → UInt64 → List Value → Option α} {o : α} (h : ga_d2 st k = some o) : ∃ x y r, st = .double y :: .double x :: r ∧ k x y r = some o := by
  obtain ⟨y, r1, e1, h1⟩ := ga_d1_s h
  obtain ⟨x, r2, e2, h2⟩ := ga_d1_s h1
  exact ⟨x, y, r2, by rw [e1, e2], h2⟩
theorem ga_u1_s {st : List Value} {k : Value → List Value → Option α} {o : α} (h : ga_u1 st k = some o) : ∃ v r, st = v :: r ∧ v.category = 1 ∧ k v r = some o := by
  unfold ga_u1 at h
  split at h
  · split at h
    · exact ⟨_, _, rfl, ‹_›, h⟩
    · cases h
  · cases h
theorem ga_oL_s {L : Option ga_Lo} {k : ga_Lo → Option α} {o : α} (h : ga_oL L k = some o) : ∃ L', L = some L' ∧ k L' = some o := by
  cases L with
  | none => cases h
  | some L => exact ⟨L, rfl, h⟩
theorem ga_fld_s {S : ga_S} {σ : ga_M} {n ci i : Nat} {k : Value → Option α} {o : α} (h : ga_fld S σ n ci i k = some o) : ∃ fs, S[n]? = some (.inl (ci, fs)) ∧ ((fs[i]? = some none ∧ k (.int (σ n i)) = some o) ∨ ∃ j, fs[i]? = some (some (some j)) ∧ k (.ref j) = some o) := by
  unfold ga_fld at h
  split at h
  · rename_i o1 ho
    split at h
    · rename_i hc
      obtain ⟨c, fs⟩ := o1
      cases hc
      refine ⟨fs, ho, ?_⟩
      split at h
      · exact Or.inl ⟨‹_›, h⟩
      · exact Or.inr ⟨_, ‹_›, h⟩
      · cases h
    · cases h
  · cases h
theorem ga_pfd_s {rf ini : Bool} {S : ga_S} {σ : ga_M} {n ci i : Nat} {v : Value} {k : ga_S → ga_M → Option α} {o : α} (h : ga_pfd rf ini S σ n ci i v k = some o) : ∃ fs, S[n]? = some (.inl (ci, fs)) ∧ ((∃ x, v = .int x ∧ fs[i]? = some none ∧ rf = false ∧ k S (ga_up σ n i x) = some o) ∨ ∃ j, v = .ref j ∧ fs[i]? = some (some none) ∧ rf = true ∧ ini = true ∧ j < S.length ∧ k (S.set n (.inl (ci, fs.set i (some (some j))))) σ = some o) := by
  unfold ga_pfd at h
  split at h
  · rename_i o1 ho
    split at h
    · rename_i hc
      obtain ⟨c, fs⟩ := o1
      cases hc
      refine ⟨fs, ho, ?_⟩
      split at h
      · split at h
        · cases h
        · rename_i hrf
          exact Or.inl ⟨_, rfl, ‹_›, by cases rf <;> simp_all, h⟩
      · split at h
        · rename_i hri
          split at h
          · exact Or.inr ⟨_, rfl, ‹_›, hri.1, hri.2, ‹_›, h⟩
          · cases h
        · cases h
      · cases h
    · cases h
  · cases h
theorem ga_arr_s {S : ga_S} {n kd : Nat} {k : Nat → Option α} {o : α} (h : ga_arr S n kd k = some o) : ∃ len, S[n]? = some (.inr (kd, len)) ∧ k len = some o := by
  unfold ga_arr at h
  split at h
  · rename_i a ha
    split at h
    · rename_i hc
      obtain ⟨c, len⟩ := a
      cases hc
      exact ⟨len, ha, h⟩
    · cases h
  · cases h
theorem ga_alen_s {S : ga_S} {scr : Option (Nat × Nat × (Nat → Int32))} {n : Nat} {k : Int32 → Option α} {o : α} (h : ga_alen S scr n k = some o) : (∃ kd len, S[n]? = some (.inr (kd, len)) ∧ kd < 2 ∧ k (Int32.ofNat len) = some o) ∨ ∃ q, scr = some q ∧ n = q.1 ∧ k (Int32.ofNat q.2.1) = some o := by
  unfold ga_alen at h
  split at h
  · split at h
    · exact Or.inl ⟨_, _, ‹_›, ‹_›, h⟩
    · cases h
  · cases h
  · split at h
    · split at h
      · exact Or.inr ⟨_, rfl, ‹_›, h⟩
      · cases h
    · cases h
theorem ga_iald_s {S : ga_S} {σ : ga_M} {scr : Option (Nat × Nat × (Nat → Int32))} {n : Nat} {i : Int32} {k : Int32 → Option α} {o : α} (h : ga_iald S σ scr n i k = some o) : (∃ len, S[n]? = some (.inr (0, len)) ∧ vp_in i len ∧ k (σ n i.toNatClampNeg) = some o) ∨ ∃ q, scr = some q ∧ n = q.1 ∧ vp_in i q.2.1 ∧ k (q.2.2 i.toNatClampNeg) = some o := by
  unfold ga_iald at h
  split at h
  · rename_i a ha
    split at h
    · rename_i hc
      obtain ⟨c, len⟩ := a
      cases hc
      split at h
      · cases h
      · exact Or.inl ⟨len, ha, ‹_›, h⟩
    · cases h
  · cases h
  · split at h
    · split at h
      · split at h
        · cases h
        · exact Or.inr ⟨_, rfl, ‹_›, ‹_›, h⟩
      · cases h
    · cases h
theorem ga_hn_s {k0 : Option α} {k : Nat × Nat → Option α} {E : Nat} {o : α} : ∀ {hn : ga_H}, ga_hn k0 k E hn = some o → ((∀ q ∈ hn, E ≠ q.1) ∧ k0 = some o) ∨ ∃ (pre : ga_H) (q : Nat × Nat × Nat) (suf : ga_H), hn = pre ++ q :: suf ∧ (∀ z ∈ pre, E ≠ z.1) ∧ E = q.1 ∧ k q.2 = some o
  | [], h => Or.inl ⟨fun _ hq => (by cases hq), h⟩
  | q :: r, h => by
    unfold ga_hn at h
    split at h
    · exact Or.inr ⟨[], q, r, rfl, fun _ hq => (by cases hq), ‹_›, h⟩
    · rename_i hx
      rcases ga_hn_s h with ⟨h1, h2⟩ | ⟨pre, q1, suf, rfl, h2, h3, h4⟩
      · exact Or.inl ⟨fun q1 hq => by
          rcases List.mem_cons.mp hq with e | e
          · rw [e]; exact hx
          · exact h1 q1 e, h2⟩
      · exact Or.inr ⟨q :: pre, q1, suf, rfl, fun z hz => by
          rcases List.mem_cons.mp hz with e | e
          · rw [e]; exact hx
          · exact h2 z e, h3, h4⟩
theorem ga_rv_s {S : ga_S} {st : List Value} {na : Nat} {sw : List (Int32 × Nat)} {k : Option α} {o : α} (h : ga_rv S st na sw k = some o) : k = some o ∧ ∀ q r' as r, sw = q :: r' → st = as.reverse ++ r → as.length = na → ∃ n fs as', as = .ref n :: as' ∧ S[n]? = some (.inl (q.2, fs)) := by
  unfold ga_rv at h
  split at h
  · exact ⟨h, fun q r' as r e => (by cases e)⟩
  · rename_i q sw'
    split at h
    · cases h
    · rename_i m
      split at h
      · rename_i n st' hst
        split at h
        · rename_i o1 hS
          split at h
          · rename_i hq
            refine ⟨h, fun q1 r' as r e e2 e3 => ?_⟩
            cases e
            cases as with
            | nil => cases e3
            | cons a as' =>
              have h1 : as'.length = m := by simpa using e3
              subst e2
              rw [List.reverse_cons, List.append_assoc, List.drop_append_of_le_length (by simp [h1]), List.drop_eq_nil_of_le (by simp [h1])] at hst
              simp only [List.nil_append, List.singleton_append, List.cons.injEq] at hst
              exact ⟨n, o1.2, as', by rw [hst.1], by rw [hS, ← hq]⟩
          · cases h
        · cases h
      · cases h
theorem ga_call_s {K0 : ga_O → Option α} {g : ga_G} (hgc : ∀ (α : Type) mid as S σ (k : ga_O → Option α) o, g α mid as S σ k = some o → ∃ o1, g ga_O mid as S σ some = some o1 ∧ k o1 = some o) {hnd : Nat → ga_H} {NF pc mid na : Nat} {L : ga_Lo} {st : List Value} {S : ga_S} {σ : ga_M} {k : Nat → ga_Lo → List Value → ga_S → ga_M → Option α} {o : α} (h : ga_call K0 g hnd NF pc mid na L st S σ k = some o) :
    ∃ as r, st = as.reverse ++ r ∧ as.length = na ∧ (r.map fun v => v.category).sum ≤ 8 ∧ ((∃ v S1 σ1, g ga_O mid as S σ some = some (.inl v, S1, σ1) ∧ k (pc + 3) L (v.toList ++ r) S1 σ1 = some o) ∨ ∃ E S1 σ1, g ga_O mid as S σ some = some (.inr E, S1, σ1) ∧ (((∀ q ∈ hnd pc, E ≠ q.1) ∧ K0 (.inr E, S1, σ1) = some o) ∨ ∃ (pre : ga_H) (q : Nat × Nat × Nat) (suf : ga_H), (hnd pc = pre ++ q :: suf ∧ (∀ z ∈ pre, E ≠ z.1) ∧ E = q.1) ∧ ¬ S1.length < NF ∧ k q.2.1 (L.set q.2.2 none) [] S1 σ1 = some o)) := by
  unfold ga_call at h
  split at h
  · rename_i hn
    split at h
    · rename_i hr
      refine ⟨(st.take na).reverse, st.drop na, by simp, by simp; omega, hr, ?_⟩
      obtain ⟨o1, h1, h2⟩ := hgc _ _ _ _ _ _ _ h
      obtain ⟨r1, S1, σ1⟩ := o1
      cases r1 with
      | inl v => exact Or.inl ⟨v, S1, σ1, h1, h2⟩
      | inr E =>
        refine Or.inr ⟨E, S1, σ1, h1, ?_⟩
        rcases ga_hn_s h2 with ⟨h3, h4⟩ | ⟨pre, q, suf, h3, h4, h5, h6⟩
        · exact Or.inl ⟨h3, h4⟩
        · split at h6
          · cases h6
          · exact Or.inr ⟨pre, q, suf, ⟨h3, h4, h5⟩, ‹_›, h6⟩
    · cases h
  · cases h
theorem ga_sw_s {k : Nat → Option α} {x : Int32} {d : Nat} {o : α} : ∀ {sw : List (Int32 × Nat)}, ga_sw k x d sw = some o → (∃ (i : Nat) (q : Int32 × Nat), sw[i]? = some q ∧ x = q.1 ∧ (∀ (j : Nat) (r : Int32 × Nat), j < i → sw[j]? = some r → x ≠ r.1) ∧ k q.2 = some o) ∨ ((∀ q ∈ sw, x ≠ q.1) ∧ k d = some o)
  | [], h => Or.inr ⟨fun _ hq => (by cases hq), h⟩
  | q :: r, h => by
    unfold ga_sw at h
    split at h
    · exact Or.inl ⟨0, q, rfl, ‹_›, fun j _ hj => absurd hj (Nat.not_lt_zero j), h⟩
    · rename_i hx
      rcases ga_sw_s h with ⟨i, q1, h1, h2, h4, h3⟩ | ⟨h1, h2⟩
      · refine Or.inl ⟨i + 1, q1, h1, h2, fun j rr hj hr => ?_, h3⟩
        cases j with
        | zero => cases hr; exact hx
        | succ j => exact h4 j rr (by omega) hr
      · exact Or.inr ⟨fun q1 hq => by
          rcases List.mem_cons.mp hq with e | e
          · rw [e]; exact hx
          · exact h1 q1 e, h2⟩
theorem ga_rI_s {K0 : ga_O → Option α} {st : List Value} {S : ga_S} {σ : ga_M} {o : α} (h : ga_rI K0 st S σ = some o) : ∃ x, st = [.int x] ∧ K0 (.inl (some (.int x)), S, σ) = some o := by
  unfold ga_rI at h
  split at h
  · exact ⟨_, rfl, h⟩
  · cases h
theorem ga_rJ_s {K0 : ga_O → Option α} {st : List Value} {S : ga_S} {σ : ga_M} {o : α} (h : ga_rJ K0 st S σ = some o) : ∃ x, st = [.long x] ∧ K0 (.inl (some (.long x)), S, σ) = some o := by
  unfold ga_rJ at h
  split at h
  · exact ⟨_, rfl, h⟩
  · cases h
theorem ga_rD_s {K0 : ga_O → Option α} {st : List Value} {S : ga_S} {σ : ga_M} {o : α} (h : ga_rD K0 st S σ = some o) : ∃ x, st = [.double x] ∧ K0 (.inl (some (.double x)), S, σ) = some o := by
  unfold ga_rD at h
  split at h
  · exact ⟨_, rfl, h⟩
  · cases h
theorem ga_rA_s {K0 : ga_O → Option α} {st : List Value} {S : ga_S} {σ : ga_M} {o : α} (h : ga_rA K0 st S σ = some o) : ∃ x, st = [.ref x] ∧ K0 (.inl (some (.ref x)), S, σ) = some o := by
  unfold ga_rA at h
  split at h
  · exact ⟨_, rfl, h⟩
  · cases h
theorem ga_rV_s {K0 : ga_O → Option α} {st : List Value} {S : ga_S} {σ : ga_M} {o : α} (h : ga_rV K0 st S σ = some o) : st = [] ∧ K0 (.inl none, S, σ) = some o := by
  unfold ga_rV at h
  split at h
  · exact ⟨rfl, h⟩
  · cases h
/-! locals -/
def ga_lp (ad : Nat → Nat) (L : ga_Lo) : List (Nat × Value) := (List.range L.length).filterMap fun i => match L[i]? with
  | some (some v) => some (i, ga_v ad v)
  | _ => none
theorem ga_lp_mem {ad : Nat → Nat} {L : ga_Lo} {i : Nat} {v : Value} (h : L[i]? = some (some v)) : (i, ga_v ad v) ∈ ga_lp ad L := by
  refine List.mem_filterMap.mpr ⟨i, List.mem_range.mpr (List.getElem?_eq_some_iff.mp h).1, ?_⟩
  simp [h]
theorem ga_lp_of {ad : Nat → Nat} {L : ga_Lo} {q : Nat × Value} (h : q ∈ ga_lp ad L) : ∃ v, L[q.1]? = some (some v) ∧ q.2 = ga_v ad v := by
  obtain ⟨i, -, h2⟩ := List.mem_filterMap.mp h
  split at h2
  · rename_i v hv
    cases h2
    exact ⟨v, hv, rfl⟩
  · cases h2
theorem ga_L.has {ad : Nat → Nat} {ls : Array Slot} {nL : Nat} {L : ga_Lo} (h : ga_L ad ls nL L) : lv_has ls nL (ga_lp ad L) := by
  refine ⟨h.2.1, h.2.2.1, fun q hq => ?_⟩
  obtain ⟨v, h1, h2⟩ := ga_lp_of hq
  rw [h2]
  exact h.2.2.2 _ _ h1
/-- no value of two slots among the locals -/
def ga_lf (lf : Bool) (L : ga_Lo) : Prop := lf = true → ∀ (i : Nat) (v : Value), L[i]? = some (some v) → ¬ v.category = 2
theorem ga_lf_set {lf : Bool} {L : ga_Lo} {i : Nat} {v : Option Value} (h : ga_lf lf L) (hv : ∀ w, v = some w → ¬ w.category = 2) : ga_lf lf (L.set i v) := by
  intro hl j w hj
  by_cases e : j = i
  · subst e
    have hlt := (List.getElem?_eq_some_iff.mp hj).1
    rw [List.length_set] at hlt
    rw [List.getElem?_set_self hlt] at hj
    exact hv w (Option.some.inj hj)
  · rw [List.getElem?_set_ne (Ne.symm e)] at hj
    exact h hl j w hj
theorem ga_s1_i {lf : Bool} {L L' : ga_Lo} {i : Nat} {v : Value} (hf : ga_lf lf L) (h : ga_s1 lf L i v = some L') : i < L.length ∧ L' = L.set i (some v) ∧ ∀ (j : Nat) (w : Value), j + 1 = i → L[j]? = some (some w) → ¬ w.category = 2 := by
  unfold ga_s1 at h
  split at h
  · rename_i hi
    cases lf with
    | true =>
      simp only [Bool.false_eq_true, if_false] at h
      exact ⟨hi, (Option.some.inj h).symm, fun j w hj hw => hf rfl j w hw⟩
    | false =>
      rcases (show (ga_pre L i = true ∧ (none : Option ga_Lo) = some L') ∨ (¬ ga_pre L i = true ∧ some (L.set i (some v)) = some L') by
        simp only at h
        split at h
        · exact Or.inl ⟨‹_›, h⟩
        · exact Or.inr ⟨‹_›, h⟩) with ⟨hc, h⟩ | ⟨hc, h⟩
      · cases h
      · refine ⟨hi, (Option.some.inj h).symm, fun j w hj hw z => hc ?_⟩
        subst hj
        show ga_cat2 L j = true
        unfold ga_cat2
        rw [hw]
        cases w <;> simp_all [Value.category]
  · cases h
theorem ga_s2_i {lf : Bool} {L L' : ga_Lo} {i : Nat} {v : Value} (h : ga_s2 lf L i v = some L') : lf = false ∧ i + 1 < L.length ∧ L' = (L.set i (some v)).set (i + 1) none ∧ ∀ (j : Nat) (w : Value), j + 1 = i → L[j]? = some (some w) → ¬ w.category = 2 := by
  unfold ga_s2 at h
  split at h
  · rename_i hi
    split at h
    · cases h
    · rename_i hc
      simp only [Bool.or_eq_true, not_or] at hc
      refine ⟨by cases lf <;> simp_all, hi, (Option.some.inj h).symm, fun j w hj hw z => hc.2 ?_⟩
      subst hj
      show ga_cat2 L j = true
      unfold ga_cat2
      rw [hw]
      cases w <;> simp_all [Value.category]
  · cases h
theorem ga_st1 {ad : Nat → Nat} {ls ls' : Array Slot} {nL i : Nat} {L L' : ga_Lo} {v : Value} {lf : Bool} (hf : ga_lf lf L) (hL : ga_L ad ls nL L) (hs : ga_s1 lf L i v = some L') (h : lv_has ls' nL ((i, ga_v ad v) :: (ga_lp ad L).filter (fun q => !(q.1 == i) && !(q.1 + 1 == i && q.2.category == 2)))) : ga_L ad ls' nL L' := by
  obtain ⟨hi, rfl, hc⟩ := ga_s1_i hf hs
  refine ⟨by rw [List.length_set]; exact hL.1, h.1, h.2.1, fun j w hj => ?_⟩
  by_cases e : j = i
  · subst e
    rw [List.getElem?_set_self hi] at hj
    cases hj
    exact h.2.2 _ List.mem_cons_self
  · rw [List.getElem?_set_ne (Ne.symm e)] at hj
    refine h.2.2 (j, ga_v ad w) (List.mem_cons_of_mem _ (List.mem_filter.mpr ⟨ga_lp_mem hj, ?_⟩))
    have h2 : ¬ (j + 1 = i ∧ w.category = 2) := fun z => hc j w z.1 hj z.2
    simp only [ga_v_cat]
    simp only [Bool.and_eq_true, Bool.not_eq_true', beq_eq_false_iff_ne, Bool.and_eq_false_imp, beq_iff_eq]
    exact ⟨e, fun z z2 => h2 ⟨z, z2⟩⟩
theorem ga_st2 {ad : Nat → Nat} {ls ls' : Array Slot} {nL i : Nat} {L L' : ga_Lo} {v : Value} {lf : Bool} (hL : ga_L ad ls nL L) (hs : ga_s2 lf L i v = some L') (h : lv_has ls' nL ((i, ga_v ad v) :: (ga_lp ad L).filter (fun q => !(q.1 == i) && (!(q.1 == i + 1) && !(q.1 + 1 == i && q.2.category == 2))))) : ga_L ad ls' nL L' := by
  obtain ⟨-, hi, rfl, hc⟩ := ga_s2_i hs
  refine ⟨by rw [List.length_set, List.length_set]; exact hL.1, h.1, h.2.1, fun j w hj => ?_⟩
  by_cases e1 : j = i + 1
  · subst e1
    rw [List.getElem?_set_self (by rw [List.length_set]; exact hi)] at hj
    cases hj
  · rw [List.getElem?_set_ne (Ne.symm e1)] at hj
    by_cases e : j = i
    · subst e
      rw [List.getElem?_set_self (by omega)] at hj
      cases hj
      exact h.2.2 _ List.mem_cons_self
    · rw [List.getElem?_set_ne (Ne.symm e)] at hj
      refine h.2.2 (j, ga_v ad w) (List.mem_cons_of_mem _ (List.mem_filter.mpr ⟨ga_lp_mem hj, ?_⟩))
      have h2 : ¬ (j + 1 = i ∧ w.category = 2) := fun z => hc j w z.1 hj z.2
      simp only [ga_v_cat]
      simp only [Bool.and_eq_true, Bool.not_eq_true', beq_eq_false_iff_ne, Bool.and_eq_false_imp, beq_iff_eq]
      exact ⟨e, e1, fun z z2 => h2 ⟨z, z2⟩⟩
theorem ga_catsum (ad : Nat → Nat) (r : List Value) : ((r.map (ga_v ad)).map fun v => v.category).sum ≤ 2 * r.length := by
  induction r with
  | nil => exact Nat.le_refl _
  | cons v r ih =>
    have h1 : (ga_v ad v).category ≤ 2 := by rcases lv_cat (ga_v ad v) with h | h <;> omega
    simp only [List.map_cons, List.sum_cons, List.length_cons]
    omega
theorem ga_L.at {ad : Nat → Nat} {ls : Array Slot} {nL i : Nat} {L : ga_Lo} {v : Value} (h : ga_L ad ls nL L) (hi : L[i]? = some (some v)) : ls[i]? = some (Slot.val (ga_v ad v)) := h.2.2.2 i v hi
end GA2
