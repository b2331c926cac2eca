section GA1
/-! the machine's cells in the heap -/
def ga_fv (ad : Nat → Nat) (σ : ga_M) (n k : Nat) (f : ga_F) : Value := match f with
  | none => .int (σ n k)
  | some none => .null
  | some (some j) => .ref (ad j)
def ga_cl (cA : Nat → ClassId) (ad : Nat → Nat) (σ : ga_M) (n : Nat) (sh : ga_Sh) : Nat × va_E := (ad n, match sh with
  | .inl o => .inr (o.1, o.2.mapIdx fun k f => ga_fv ad σ n k f)
  | .inr a => .inl (cA a.1, a.2, if a.1 = 2 then .inr (.inl fun i => (σ n i).toInt64) else .inl (σ n)))
def ga_w (cA : Nat → ClassId) (ad : Nat → Nat) (S : ga_S) (σ : ga_M) : va_W := S.mapIdx fun n sh => ga_cl cA ad σ n sh
def ga_v (ad : Nat → Nat) : Value → Value
  | .ref k => .ref (ad k)
  | v => v
def ga_I (D : va_G) (cA : Nat → ClassId) (A : Nat → Prop) (H0 : Heap) (ad : Nat → Nat) (NF : Nat) (S : ga_S) (σ : ga_M) (H : Heap) (locs : List Loc) : Prop :=
  va_P D vwCl (ga_w cA ad S σ) H ∧ va_D A (ga_w cA ad S σ) ∧ va_S A H0 H locs ∧ (S.length < NF → H.size = ad S.length)
def ga_L (ad : Nat → Nat) (ls : Array Slot) (nL : Nat) (L : ga_Lo) : Prop := L.length = nL ∧ ls.size = nL ∧ lv_wf ls ∧ ∀ (i : Nat) (v : Value), L[i]? = some (some v) → ls[i]? = some (Slot.val (ga_v ad v))
variable {cA : Nat → ClassId} {ad : Nat → Nat} {S : ga_S} {σ : ga_M}
theorem ga_v_cat (ad : Nat → Nat) (v : Value) : (ga_v ad v).category = v.category := by cases v <;> rfl
theorem ga_w_at {n : Nat} {sh : ga_Sh} (h : S[n]? = some sh) : (ga_w cA ad S σ)[n]? = some (ga_cl cA ad σ n sh) := by
  simp [ga_w, List.getElem?_mapIdx, h]
theorem ga_up_ne {n i j : Nat} {x : Int32} (h : j ≠ n) : ga_up σ n i x j = σ j := by simp [ga_up, h]
theorem ga_up_self {n i : Nat} {x : Int32} : ga_up σ n i x n = upd (σ n) i x := by simp [ga_up]
theorem ga_z_ne {n j : Nat} (h : j ≠ n) : ga_z σ n j = σ j := by simp [ga_z, h]
theorem ga_z_self {n : Nat} : ga_z σ n n = fun _ => 0 := by simp [ga_z]
theorem ga_cl_ne {n i j : Nat} {x : Int32} {sh : ga_Sh} (h : j ≠ n) : ga_cl cA ad (ga_up σ n i x) j sh = ga_cl cA ad σ j sh := by
  have e : ∀ k f, ga_fv ad (ga_up σ n i x) j k f = ga_fv ad σ j k f := fun k f => by
    cases f with
    | none => simp [ga_fv, ga_up_ne h]
    | some r => cases r <;> rfl
  cases sh with
  | inl o => simp only [ga_cl, e]
  | inr a => simp only [ga_cl, ga_up_ne h]
theorem ga_w_set {n : Nat} {sh : ga_Sh} {S' : ga_S} {σ' : ga_M} {q : va_E} (h : S[n]? = some sh) (hS : ∀ j, j ≠ n → S'[j]? = S[j]?) (hσ : ∀ j sh, j ≠ n → ga_cl cA ad σ' j sh = ga_cl cA ad σ j sh) {sh' : ga_Sh} (h' : S'[n]? = some sh') (hq : ga_cl cA ad σ' n sh' = (ad n, q)) :
    (ga_w cA ad S σ).set n (ad n, q) = ga_w cA ad S' σ' := by
  apply List.ext_getElem?
  intro j
  have hl : n < (ga_w cA ad S σ).length := by
    have := (List.getElem?_eq_some_iff.mp h).1
    simpa [ga_w] using this
  by_cases hj : j = n
  · subst hj
    rw [List.getElem?_set_self hl, ga_w_at h', hq]
  · rw [List.getElem?_set_ne (Ne.symm hj)]
    simp only [ga_w, List.getElem?_mapIdx]
    rw [hS j hj]
    cases S[j]? with
    | none => rfl
    | some sh => simp [hσ j sh hj]
theorem ga_w_setI {n i : Nat} {o : Nat × List ga_F} {x : Int32} (h : S[n]? = some (.inl o)) (hi : o.2[i]? = some none) :
    (ga_w cA ad S σ).set n (ad n, .inr (o.1, (o.2.mapIdx fun k f => ga_fv ad σ n k f).set i (.int x))) = ga_w cA ad S (ga_up σ n i x) := by
  refine ga_w_set h (fun _ _ => rfl) (fun j sh hj => ga_cl_ne hj) h ?_
  show (ad n, (Sum.inr (o.1, o.2.mapIdx fun k f => ga_fv ad (ga_up σ n i x) n k f) : va_E)) = _
  have : (o.2.mapIdx fun k f => ga_fv ad (ga_up σ n i x) n k f) = (o.2.mapIdx fun k f => ga_fv ad σ n k f).set i (.int x) := by
    apply List.ext_getElem?
    intro j
    have hl : i < (o.2.mapIdx fun k f => ga_fv ad σ n k f).length := by
      have := (List.getElem?_eq_some_iff.mp hi).1
      simpa using this
    by_cases hj : j = i
    · subst hj
      rw [List.getElem?_set_self hl]
      simp [List.getElem?_mapIdx, hi, ga_fv, ga_up_self, upd]
    · rw [List.getElem?_set_ne (Ne.symm hj)]
      simp only [List.getElem?_mapIdx]
      cases o.2[j]? with
      | none => rfl
      | some f => cases f with
        | none => simp [ga_fv, ga_up_self, upd, hj]
        | some r => cases r <;> rfl
  rw [this]
theorem ga_w_setR {n i j : Nat} {o : Nat × List ga_F} (h : S[n]? = some (.inl o)) (hi : i < o.2.length) :
    (ga_w cA ad S σ).set n (ad n, .inr (o.1, (o.2.mapIdx fun k f => ga_fv ad σ n k f).set i (.ref (ad j)))) = ga_w cA ad (S.set n (.inl (o.1, o.2.set i (some (some j))))) σ := by
  have hl := (List.getElem?_eq_some_iff.mp h).1
  refine ga_w_set h (fun j hj => by rw [List.getElem?_set_ne (Ne.symm hj)]) (fun j sh hj => rfl) (sh' := .inl (o.1, o.2.set i (some (some j)))) (by rw [List.getElem?_set_self hl]) ?_
  show (ad n, (Sum.inr (o.1, (o.2.set i (some (some j))).mapIdx fun k f => ga_fv ad σ n k f) : va_E)) = _
  have : ((o.2.set i (some (some j))).mapIdx fun k f => ga_fv ad σ n k f) = (o.2.mapIdx fun k f => ga_fv ad σ n k f).set i (.ref (ad j)) := by
    apply List.ext_getElem?
    intro k
    have hl2 : i < (o.2.mapIdx fun k f => ga_fv ad σ n k f).length := by simpa using hi
    by_cases hj : k = i
    · subst hj
      have e1 := List.getElem?_set_self (a := Value.ref (ad j)) hl2
      rw [e1, List.getElem?_mapIdx, List.getElem?_set_self hi]
      rfl
    · rw [List.getElem?_set_ne (Ne.symm hj)]
      simp only [List.getElem?_mapIdx, List.getElem?_set_ne (Ne.symm hj)]
  rw [this]
theorem ga_w_setA {n i kd len : Nat} {x : Int32} (h : S[n]? = some (.inr (kd, len))) (hk : kd ≠ 2) :
    (ga_w cA ad S σ).set n (ad n, .inl (cA kd, len, .inl (upd (σ n) i x))) = ga_w cA ad S (ga_up σ n i x) := by
  refine ga_w_set h (fun _ _ => rfl) (fun j sh hj => ga_cl_ne hj) h ?_
  simp [ga_cl, hk, ga_up_self]
theorem ga_w_setJ {n i len : Nat} {x : Int32} (h : S[n]? = some (.inr (2, len))) :
    (ga_w cA ad S σ).set n (ad n, .inl (cA 2, len, .inr (.inl (vp_updL (fun i => (σ n i).toInt64) i x.toInt64)))) = ga_w cA ad S (ga_up σ n i x) := by
  refine ga_w_set h (fun _ _ => rfl) (fun j sh hj => ga_cl_ne hj) h ?_
  have : (fun j => (upd (σ n) i x j).toInt64) = vp_updL (fun i => (σ n i).toInt64) i x.toInt64 := by
    funext j
    by_cases hj : j = i <;> simp [upd, vp_updL, hj]
  simp [ga_cl, ga_up_self, this]
theorem ga_w_push {sh : ga_Sh} : ga_w cA ad S σ ++ [ga_cl cA ad (ga_z σ S.length) S.length sh] = ga_w cA ad (S ++ [sh]) (ga_z σ S.length) := by
  have e : ∀ j (sh : ga_Sh), j ≠ S.length → ga_cl cA ad (ga_z σ S.length) j sh = ga_cl cA ad σ j sh := fun j sh hj => by
    have e2 : ∀ k f, ga_fv ad (ga_z σ S.length) j k f = ga_fv ad σ j k f := fun k f => by
      cases f with
      | none => simp [ga_fv, ga_z_ne hj]
      | some r => cases r <;> rfl
    cases sh with
    | inl o => simp only [ga_cl, e2]
    | inr a => simp only [ga_cl, ga_z_ne hj]
  apply List.ext_getElem?
  intro j
  by_cases hj : j < S.length
  · rw [List.getElem?_append_left (by simpa [ga_w] using hj)]
    simp only [ga_w, List.getElem?_mapIdx]
    rw [List.getElem?_append_left hj]
    cases S[j]? with
    | none => rfl
    | some sh => simp [e j sh (by omega)]
  · by_cases hj2 : j = S.length
    · subst hj2
      rw [List.getElem?_append_right (by simp [ga_w])]
      simp [ga_w, List.getElem?_mapIdx]
    · rw [List.getElem?_append_right (by simp [ga_w]; omega), List.getElem?_eq_none (by simp [ga_w]; omega)]
      rw [List.getElem?_eq_none (by simp [ga_w]; omega)]
end GA1
