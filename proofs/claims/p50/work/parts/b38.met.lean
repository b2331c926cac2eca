section GB6
theorem gb_lk_mem {cl : List (Nat × ga_E)} {pc : Nat} {r : ga_E} (h : ga_lk cl pc = some r) : (pc, r) ∈ cl := by
  induction cl with
  | nil => cases h
  | cons q t ih =>
    unfold ga_lk at h
    split at h
    · rename_i hb
      have := Nat.eq_of_beq_eq_true hb
      cases h
      rw [this]
      exact List.mem_cons_self
    · exact List.mem_cons_of_mem _ (ih h)
/-- a method's locals at its start -/
def gb_fl (as : List Value) : ga_Lo := as.flatMap fun v => if v.category = 2 then [some v, none] else [some v]
def gb_L0 (as : List Value) (n : Nat) : ga_Lo := gb_fl as ++ List.replicate (n - (gb_fl as).length) none
theorem gb_fl_len (ad : Nat → Nat) (as : List Value) : (lg_sl (as.map (ga_v ad))).length = (gb_fl as).length := by
  induction as with
  | nil => rfl
  | cons v t ih =>
    have e1 : lg_sl ((v :: t).map (ga_v ad)) = (if (ga_v ad v).category = 2 then [Slot.val (ga_v ad v), Slot.second] else [Slot.val (ga_v ad v)]) ++ lg_sl (t.map (ga_v ad)) := rfl
    have e2 : gb_fl (v :: t) = (if v.category = 2 then [some v, none] else [some v]) ++ gb_fl t := rfl
    rw [e1, e2, List.length_append, List.length_append, ih, ga_v_cat]
    split <;> rfl
theorem gb_fl_at (ad : Nat → Nat) (as : List Value) : ∀ (k i : Nat) (v : Value), (gb_fl as)[i]? = some (some v) → (k + i, ga_v ad v) ∈ lv_args k (as.map (ga_v ad)) := by
  induction as with
  | nil => intro k i v h; simp [gb_fl] at h
  | cons w t ih =>
    intro k i v h
    have e2 : gb_fl (w :: t) = (if w.category = 2 then [some w, none] else [some w]) ++ gb_fl t := rfl
    rw [e2] at h
    have e3 : lv_args k ((w :: t).map (ga_v ad)) = (k, ga_v ad w) :: lv_args (if w.category = 2 then k + 2 else k + 1) (t.map (ga_v ad)) := by
      show lv_args k (ga_v ad w :: t.map (ga_v ad)) = _
      rw [lv_args, ga_v_cat]
    rw [e3]
    by_cases hc : w.category = 2
    · rw [if_pos hc] at h ⊢
      match i, h with
      | 0, h => cases h; exact List.mem_cons_self
      | 1, h => cases h
      | j + 2, h =>
        have h : (gb_fl t)[j]? = some (some v) := by simpa using h
        have := ih (k + 2) j v h
        rw [show k + (j + 2) = k + 2 + j by omega]
        exact List.mem_cons_of_mem _ this
    · rw [if_neg hc] at h ⊢
      match i, h with
      | 0, h => cases h; exact List.mem_cons_self
      | j + 1, h =>
        have h : (gb_fl t)[j]? = some (some v) := by simpa using h
        have := ih (k + 1) j v h
        rw [show k + (j + 1) = k + 1 + j by omega]
        exact List.mem_cons_of_mem _ this
theorem gb_L0_len {as : List Value} {n : Nat} (h : (gb_fl as).length ≤ n) : (gb_L0 as n).length = n := by
  simp [gb_L0]; omega
theorem gb_L0_at {as : List Value} {n i : Nat} {v : Value} (h : (gb_L0 as n)[i]? = some (some v)) : (gb_fl as)[i]? = some (some v) := by
  unfold gb_L0 at h
  by_cases hi : i < (gb_fl as).length
  · rwa [List.getElem?_append_left hi] at h
  · rw [List.getElem?_append_right (by omega), List.getElem?_replicate] at h
    split at h <;> cases h
theorem gb_L0_L {ad : Nat → Nat} {as : List Value} {n : Nat} (h : (gb_fl as).length ≤ n) : ga_L ad ((lg_sl (as.map (ga_v ad)) ++ List.replicate (n - (lg_sl (as.map (ga_v ad))).length) Slot.unset).toArray) n (gb_L0 as n) := by
  have hl := lv_entry (as.map (ga_v ad)) (n := n) (by rw [gb_fl_len]; exact h)
  exact ⟨gb_L0_len h, hl.1, hl.2.1, fun i v hi => hl.2.2 (i, ga_v ad v) (by simpa using gb_fl_at ad as 0 i v (gb_L0_at hi))⟩
theorem gb_L0_lf {lf : Bool} {as : List Value} {n : Nat} (h : (!lf || as.all fun v => v.category == 1) = true) : ga_lf lf (gb_L0 as n) := by
  intro hl i v hi
  subst hl
  have h : (as.all fun v => v.category == 1) = true := by simpa using h
  have h2 := gb_L0_at hi
  have h3 : some v ∈ gb_fl as := List.mem_of_getElem? h2
  obtain ⟨w, hw, hv⟩ := List.mem_flatMap.mp h3
  have h4 := List.all_eq_true.mp h w hw
  have h5 : w.category = 1 := by simpa using h4
  rw [h5] at hv
  have : v = w := by simpa using hv
  rw [this, h5]
  decide
/-- the throws, the fields, the texts and the numbers of a class's constant pool -/
def gb_thb (sl : List (Nat × Nat)) (tl : List (Nat × Nat × Nat)) (cc : ByteArray) (pc ik En : Nat) : Bool :=
  decide (decode cc pc = .ok (.new ik, 3)) && decide (decode cc (pc + 3) = .ok (.dup, 1)) && (match decode cc (pc + 4) with
    | .ok (.ldc is, 2) => (En != 4 && sl.any fun q => q.1 == is) && (match decode cc (pc + 6) with
      | .ok (.invokespecial ic, 3) => decide (decode cc (pc + 9) = .ok (.athrow, 1)) && (tl.any fun q => q.1 == ik && q.2.1 == ic && q.2.2 == En)
      | _ => false)
    | .ok (.ldc_w is, 3) => (sl.any fun q => q.1 == is) && (match decode cc (pc + 7) with
      | .ok (.invokespecial ic, 3) => decide (decode cc (pc + 10) = .ok (.athrow, 1)) && (tl.any fun q => q.1 == ik && q.2.1 == ic && q.2.2 == En)
      | _ => false)
    | _ => false)
/-- a row of a method's table -/
def gb_rk (fl : List (Nat × Nat × Nat)) (sl : List (Nat × Nat)) (nl ll : List (Nat × Int32)) (tl : List (Nat × Nat × Nat)) (cc : ByteArray) (q : Nat × ga_E) : Bool :=
  decide (decode cc q.1 = .ok (q.2.1, q.2.2.1)) && (ga_chk q.1 q.2.1 q.2.2.1 q.2.2.2.1 q.2.2.2.2.2 && (match q.2.1 with
    | .getfield idx => fl.any fun z => z.1 == idx && z.2.1 == q.2.2.2.1 && z.2.2 == q.2.2.2.2.1
    | .putfield idx => q.2.2.2.2.2.isEmpty && (fl.any fun z => z.1 == idx && z.2.1 == q.2.2.2.1 && z.2.2 == q.2.2.2.2.1) && (match vwCl[q.2.2.2.1]? with
      | some C => !(C.2.1 q.2.2.2.2.1).2.2.2
      | none => false)
    | .new idx => decide (1000 ≤ q.2.2.2.1) && gb_thb sl tl cc q.1 idx (q.2.2.2.1 - 1000)
    | .newarray _ => false
    | .invokespecial _ => q.2.2.2.1 != 0
    | .ldc idx => (match q.2.2.2.2.2 with
      | [] => decide (1000 ≤ q.2.2.2.1) && sl.any fun z => z.1 == idx && z.2 == q.2.2.2.1 - 1000
      | z :: _ => nl.any fun w => w.1 == idx && w.2 == z.1)
    | .ldc_w idx => (match q.2.2.2.2.2 with
      | [] => decide (1000 ≤ q.2.2.2.1) && sl.any fun z => z.1 == idx && z.2 == q.2.2.2.1 - 1000
      | z :: _ => nl.any fun w => w.1 == idx && w.2 == z.1)
    | .ldc2_w idx => (match q.2.2.2.2.2 with
      | [] => false
      | z :: _ => ll.any fun w => w.1 == idx && w.2 == z.1)
    | _ => true))
/-- what the tables say of a class's constant pool -/
def gb_Fo (own : String) (q : Nat × Nat × Nat) : Prop := ∃ (C : String) (T : u_T) (N : Nat) (ty : Nat → FieldType), vwCl[q.2.1]? = some (C, T, N) ∧ q.2.2 < N ∧ Cond.fieldLink own q.1 (T q.2.2).1 (T q.2.2).2.1 (T q.2.2).2.2.1 ∈ gb_good ∧ (∀ w ∈ u_ws C T N, w ∈ gb_good) ∧
  (∀ j, j < N → parseFieldDescriptor (T j).2.2.1 = some (ty j)) ∧ (∀ a, a < N → ∀ b, b < N → a ≠ b → (T a).2.1 ≠ (T b).2.1) ∧ ((T q.2.2).2.2.2 = false → ty q.2.2 = .int)
def gb_Own (own : String) (fl : List (Nat × Nat × Nat)) (sl : List (Nat × Nat)) (nl ll : List (Nat × Int32)) (tl : List (Nat × Nat × Nat)) : Prop :=
  (∀ q ∈ fl, gb_Fo own q) ∧ (∀ q ∈ sl, ∃ tx, (own, q.1, tx, q.2) ∈ gb_strs) ∧ (∀ q ∈ nl, Cond.constant own q.1 q.2 ∈ gb_good) ∧ (∀ q ∈ ll, Cond.constantDouble own q.1 (FP.i2d q.2) ∈ gb_good) ∧ ∀ q ∈ tl, gb_tw own q.1 q.2.1 q.2.2
theorem gb_thb_at {own : String} {fl : List (Nat × Nat × Nat)} {sl : List (Nat × Nat)} {nl ll : List (Nat × Int32)} {tl : List (Nat × Nat × Nat)} {cc : ByteArray} {pc ik En : Nat} (ho : gb_Own own fl sl nl ll tl) (h : gb_thb sl tl cc pc ik En = true) : gb_Th own cc pc ik En := by
  unfold gb_thb at h
  obtain ⟨h1, h2⟩ := Bool.and_eq_true_iff.mp h
  obtain ⟨d0, d3⟩ := Bool.and_eq_true_iff.mp h1
  have d0 := of_decide_eq_true d0
  have d3 := of_decide_eq_true d3
  split at h2
  · rename_i is d4
    obtain ⟨h3, h4⟩ := Bool.and_eq_true_iff.mp h2
    split at h4
    · rename_i ic d6
      obtain ⟨h5, h6⟩ := Bool.and_eq_true_iff.mp h4
      obtain ⟨z, hz, hz2⟩ := List.any_eq_true.mp h6
      obtain ⟨hE4, h3⟩ := Bool.and_eq_true_iff.mp h3
      obtain ⟨q, hq, hq2⟩ := List.any_eq_true.mp h3
      have hq2 : q.1 = is := by simpa using hq2
      have hz2 : (z.1 = ik ∧ z.2.1 = ic) ∧ z.2.2 = En := by simpa using hz2
      obtain ⟨tx, htx⟩ := ho.2.1 q hq
      have h7 := ho.2.2.2.2 z hz
      rw [hz2.1.1, hz2.1.2, hz2.2] at h7
      rw [hq2] at htx
      exact ⟨is, ic, false, tx, q.2, d0, d3, ⟨d4, d6, of_decide_eq_true h5⟩, htx, h7, fun h => by rw [h] at hE4; cases hE4⟩
    · cases h4
  · rename_i is d4
    obtain ⟨h3, h4⟩ := Bool.and_eq_true_iff.mp h2
    split at h4
    · rename_i ic d6
      obtain ⟨h5, h6⟩ := Bool.and_eq_true_iff.mp h4
      obtain ⟨z, hz, hz2⟩ := List.any_eq_true.mp h6
      obtain ⟨q, hq, hq2⟩ := List.any_eq_true.mp h3
      have hq2 : q.1 = is := by simpa using hq2
      have hz2 : (z.1 = ik ∧ z.2.1 = ic) ∧ z.2.2 = En := by simpa using hz2
      obtain ⟨tx, htx⟩ := ho.2.1 q hq
      have h7 := ho.2.2.2.2 z hz
      rw [hz2.1.1, hz2.1.2, hz2.2] at h7
      rw [hq2] at htx
      exact ⟨is, ic, true, tx, q.2, d0, d3, ⟨d4, d6, of_decide_eq_true h5⟩, htx, h7, fun _ => rfl⟩
    · cases h4
  · cases h2
theorem gb_any3 {fl : List (Nat × Nat × Nat)} {a b c : Nat} (h : (fl.any fun z => z.1 == a && z.2.1 == b && z.2.2 == c) = true) : (a, b, c) ∈ fl := by
  obtain ⟨z, hz, h2⟩ := List.any_eq_true.mp h
  have h2 : (z.1 = a ∧ z.2.1 = b) ∧ z.2.2 = c := by simpa using h2
  obtain ⟨⟨rfl, rfl⟩, rfl⟩ := h2
  exact hz
theorem gb_any2 {sl : List (Nat × Nat)} {a b : Nat} (h : (sl.any fun z => z.1 == a && z.2 == b) = true) : (a, b) ∈ sl := by
  obtain ⟨z, hz, h2⟩ := List.any_eq_true.mp h
  have h2 : z.1 = a ∧ z.2 = b := by simpa using h2
  obtain ⟨rfl, rfl⟩ := h2
  exact hz
theorem gb_anyi {sl : List (Nat × Int32)} {a : Nat} {b : Int32} (h : (sl.any fun z => z.1 == a && z.2 == b) = true) : (a, b) ∈ sl := by
  obtain ⟨z, hz, h2⟩ := List.any_eq_true.mp h
  have h2 : z.1 = a ∧ z.2 = b := by simpa using h2
  obtain ⟨rfl, rfl⟩ := h2
  exact hz
end GB6
