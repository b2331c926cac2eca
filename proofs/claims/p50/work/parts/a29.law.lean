section D59
/-! ===== the law's loop ===== -/
variable {s : ga_M}
def gOk (o : Option (Int32 × ga_M)) : Prop := ∃ r, o = some (1, r)
theorem g_ite {c : Prop} [Decidable c] {A B : Option (Int32 × ga_M)} (ha : c → gOk A) (hb : ¬ c → gOk B) : gOk (if c then A else B) := by
  by_cases h : c
  · rw [if_pos h]; exact ha h
  · rw [if_neg h]; exact hb h
theorem lg_same (x : Int32) : lg_cmp x.toInt64 x.toInt64 = 0 := by
  have h1 : ¬ lg_cmp x.toInt64 x.toInt64 < 0 := by rw [lg_cmp_lt]; exact Int64.lt_irrefl
  have h2 : ¬ 0 < lg_cmp x.toInt64 x.toInt64 := by rw [lg_cmp_gt]; exact Int64.lt_irrefl
  exact Int32.le_antisymm (Int32.not_lt.mp h2) (Int32.not_lt.mp h1)
theorem g_step0 {fC fM : ga_M → Option (Int32 × ga_M)} {K : ga_M → Option (Int32 × ga_M)} (h : dStep0 fC fM) (hI : dIs s) (hK : ∀ s2, dIs s2 → gOk (K s2)) :
    gOk ((fC s).bind fun q => (fM q.2).bind fun q2 => if q.1 = q2.1 then K q2.2 else some (0, q2.2)) := by
  obtain ⟨v, s1, s2, e1, e2, e5⟩ := h s hI
  rw [e1, Option.bind_some, e2, Option.bind_some, if_pos rfl]
  exact hK s2 e5
theorem g_val {x : Int32} {q : Int32 × ga_M} {K : ga_M → Option (Int32 × ga_M)} (h : x = q.1 ∧ dIs q.2) (hK : ∀ s2, dIs s2 → gOk (K s2)) : gOk (if x = q.1 then K q.2 else some (0, q.2)) := by
  rw [if_pos h.1]; exact hK _ h.2
end D59
