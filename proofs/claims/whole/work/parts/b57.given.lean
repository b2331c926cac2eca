noncomputable section
section GV0
theorem gw_t1 (i : Nat) {w : Cond} (h : tables_1_1[i]? = some w) : w ∈ lw_tbl := List.mem_append_right _ (List.mem_append_left _ (List.mem_of_getElem? h))
theorem gw_t2 (i : Nat) {w : Cond} (h : tables_1_2[i]? = some w) : w ∈ lw_tbl := List.mem_append_right _ (List.mem_append_right _ (List.mem_append_left _ (List.mem_of_getElem? h)))
theorem gw_t3 (i : Nat) {w : Cond} (h : tables_1_3[i]? = some w) : w ∈ lw_tbl := List.mem_append_right _ (List.mem_append_right _ (List.mem_append_right _ (List.mem_append_left _ (List.mem_of_getElem? h))))
theorem gw_t4 (i : Nat) {w : Cond} (h : tables_1_4[i]? = some w) : w ∈ lw_tbl := List.mem_append_right _ (List.mem_append_right _ (List.mem_append_right _ (List.mem_append_right _ (List.mem_append_left _ (List.mem_of_getElem? h)))))
theorem gw_t5 (i : Nat) {w : Cond} (h : tables_1_5[i]? = some w) : w ∈ lw_tbl := List.mem_append_right _ (List.mem_append_right _ (List.mem_append_right _ (List.mem_append_right _ (List.mem_append_right _ (List.mem_append_left _ (List.mem_of_getElem? h))))))
theorem gw_t6 (i : Nat) {w : Cond} (h : tables_1_6[i]? = some w) : w ∈ lw_tbl := List.mem_append_right _ (List.mem_append_right _ (List.mem_append_right _ (List.mem_append_right _ (List.mem_append_right _ (List.mem_append_right _ (List.mem_append_left _ (List.mem_of_getElem? h)))))))
theorem gw_t7 (i : Nat) {w : Cond} (h : tables_1_7[i]? = some w) : w ∈ lw_tbl := List.mem_append_right _ (List.mem_append_right _ (List.mem_append_right _ (List.mem_append_right _ (List.mem_append_right _ (List.mem_append_right _ (List.mem_append_right _ (List.mem_append_left _ (List.mem_of_getElem? h))))))))
theorem gw_t8 (i : Nat) {w : Cond} (h : tables_1_8[i]? = some w) : w ∈ lw_tbl := List.mem_append_right _ (List.mem_append_right _ (List.mem_append_right _ (List.mem_append_right _ (List.mem_append_right _ (List.mem_append_right _ (List.mem_append_right _ (List.mem_append_right _ (List.mem_append_left _ (List.mem_of_getElem? h)))))))))
theorem gw_t9 (i : Nat) {w : Cond} (h : tables_1_9[i]? = some w) : w ∈ lw_tbl := List.mem_append_right _ (List.mem_append_right _ (List.mem_append_right _ (List.mem_append_right _ (List.mem_append_right _ (List.mem_append_right _ (List.mem_append_right _ (List.mem_append_right _ (List.mem_append_right _ (List.mem_of_getElem? h)))))))))
def gw_pt : List Bool → Cond → Option Cond
  | [], c => some c
  | b :: r, .and x y => gw_pt r (bif b then y else x)
  | _ :: _, _ => none
theorem gw_pt_ok {args : Array Value} {s : State} : ∀ (p : List Bool) (c w : Cond), gw_pt p c = some w → c.before args s = true → w.before args s = true := by
  intro p
  induction p with
  | nil => intro c w h hc; cases h; exact hc
  | cons b r ih =>
    intro c w h hc
    cases c with
    | and x y =>
      have h1 : gw_pt r (bif b then y else x) = some w := h
      rw [Cond.before_and, Bool.and_eq_true] at hc
      cases b with
      | true => exact ih y w h1 hc.2
      | false => exact ih x w h1 hc.1
    | _ => cases h
variable {args : Array Value} {s : State} {A : Nat → Prop}
theorem gw_n (p : List Bool) {w : Cond} (h : narrow_1.before args s = true) (e : gw_pt p narrow_1 = some w) : w.before args s = true := gw_pt_ok p _ _ e h
def gw_S (A : Nat → Prop) (s : State) (z : String × Nat × String × Nat) (tx : List Nat) (q : Nat × Nat) : Prop := vk_R z.1 z.2.1 z.2.2.1 q.1 s ∧ va_O "java/lang/String" q.1 A s s.heap ∧ va_OF "java/lang/String" "coder" "B" (.int 0) q.1 A s s.heap ∧ va_OF "java/lang/String" "value" "[B" (.ref q.2) q.1 A s s.heap ∧ va_T .byte q.2 tx.length (fun j => .int (Int32.ofNat (tx.getD j 0))) A s s.heap
theorem gw_Sof {own tx9 : String} {k i : Nat} {tx : List Nat} (hsr : (Cond.stringRef own k tx9).before args s = true) (hN : tx.length < 2 ^ 31) (hex : (Cond.exactly (.string own k) "java/lang/String").before args s = true) (hco : (Cond.eq (.field (.string own k) "java/lang/String" "coder" "B") (.int 0)).before args s = true)
    (har : (Cond.arrayOf (.field (.string own k) "java/lang/String" "value" "[B") .byte).before args s = true) (hle : (Cond.eq (.length (.field (.string own k) "java/lang/String" "value" "[B")) (.int (Int32.ofNat tx.length))).before args s = true)
    (hel : ∀ j : Nat, j < tx.length → (Cond.eq (.elem (.field (.string own k) "java/lang/String" "value" "[B") (.int (Int32.ofNat j))) (.int (Int32.ofNat (tx.getD j 0)))).before args s = true) (hA : ∀ a : Nat, a < s.heap.size → ¬ A a) : ∃ q, gw_S A s (own, k, tx9, i) tx q := by
  obtain ⟨a, c, cA, kA, q1, q2, q3, q4, q5, q6, -⟩ := Cond.exactly_spec (args := args) (first := s) (o := none) (s := s) (idx := []) (t := .string own k) (cls := "java/lang/String") hex
  obtain ⟨t, ht, hT⟩ := va_Tof (f := fun j => .int (Int32.ofNat (tx.getD j 0))) (A := A) hN har (va_eqt hle) (fun j hj => va_eqt (hel j hj)) hA
  exact ⟨(a, t), vk_R.of hsr q1, ⟨cA, q3, q5, by rw [q6]; exact q2, hA a (Array.getElem?_eq_some_iff.mp q3).1⟩, vk_OFof q1 (va_eqt hco) hA, vk_OFof q1 ht hA, hT⟩
theorem gw_s0 (h : narrow_1.before args s = true) (hts : ∀ w ∈ lw_tbl, w.before args s = true) (hA : ∀ a : Nat, a < s.heap.size → ¬ A a) : ∃ q, gw_S A s ("SubstituteDesk$SchoolText", 49, "grid", 0) [103, 114, 105, 100] q :=
  gw_Sof (hts _ (gw_t3 39 rfl)) (by decide) (gw_n [false, false, false, true, false, false, true, false, false, true] h rfl) (gw_n [false, false, false, true, false, false, true, false, true, false] h rfl) (gw_n [false, false, false, true, false, false, true, false, true, true] h rfl) (gw_n [false, false, false, true, false, false, true, true, false, false] h rfl) (fun j hj => match j, hj with
    | 0, _ => (gw_n [false, false, false, true, false, false, true, true, false, true] h rfl)
    | 1, _ => (gw_n [false, false, false, true, false, false, true, true, true, false] h rfl)
    | 2, _ => (gw_n [false, false, false, true, false, false, true, true, true, true] h rfl)
    | 3, _ => (gw_n [false, false, false, true, false, true, false, false, false, false] h rfl)
    | m + 4, hj => absurd hj (Nat.not_lt.mpr (Nat.le_add_left 4 m))) hA
theorem gw_s1 (h : narrow_1.before args s = true) (hts : ∀ w ∈ lw_tbl, w.before args s = true) (hA : ∀ a : Nat, a < s.heap.size → ¬ A a) : ∃ q, gw_S A s ("SubstituteDesk$SchoolText", 73, "subject", 1) [115, 117, 98, 106, 101, 99, 116] q :=
  gw_Sof (hts _ (gw_t3 121 rfl)) (by decide) (gw_n [false, false, false, true, false, true, false, false, false, true] h rfl) (gw_n [false, false, false, true, false, true, false, false, true, false] h rfl) (gw_n [false, false, false, true, false, true, false, false, true, true] h rfl) (gw_n [false, false, false, true, false, true, false, true, false, false] h rfl) (fun j hj => match j, hj with
    | 0, _ => (gw_n [false, false, false, true, false, true, false, true, false, true] h rfl)
    | 1, _ => (gw_n [false, false, false, true, false, true, false, true, true, false] h rfl)
    | 2, _ => (gw_n [false, false, false, true, false, true, false, true, true, true] h rfl)
    | 3, _ => (gw_n [false, false, false, true, false, true, true, false, false, false] h rfl)
    | 4, _ => (gw_n [false, false, false, true, false, true, true, false, false, true] h rfl)
    | 5, _ => (gw_n [false, false, false, true, false, true, true, false, true, false] h rfl)
    | 6, _ => (gw_n [false, false, false, true, false, true, true, false, true, true] h rfl)
    | m + 7, hj => absurd hj (Nat.not_lt.mpr (Nat.le_add_left 7 m))) hA
theorem gw_s2 (h : narrow_1.before args s = true) (hts : ∀ w ∈ lw_tbl, w.before args s = true) (hA : ∀ a : Nat, a < s.heap.size → ¬ A a) : ∃ q, gw_S A s ("SubstituteDesk$SchoolText", 86, "teacher", 2) [116, 101, 97, 99, 104, 101, 114] q :=
  gw_Sof (hts _ (gw_t3 127 rfl)) (by decide) (gw_n [false, false, false, true, false, true, true, true, false, false] h rfl) (gw_n [false, false, false, true, false, true, true, true, false, true] h rfl) (gw_n [false, false, false, true, false, true, true, true, true, false] h rfl) (gw_n [false, false, false, true, false, true, true, true, true, true] h rfl) (fun j hj => match j, hj with
    | 0, _ => (gw_n [false, false, false, true, true, false, false, false, false, false] h rfl)
    | 1, _ => (gw_n [false, false, false, true, true, false, false, false, false, true] h rfl)
    | 2, _ => (gw_n [false, false, false, true, true, false, false, false, true, false] h rfl)
    | 3, _ => (gw_n [false, false, false, true, true, false, false, false, true, true] h rfl)
    | 4, _ => (gw_n [false, false, false, true, true, false, false, true, false, false] h rfl)
    | 5, _ => (gw_n [false, false, false, true, true, false, false, true, false, true] h rfl)
    | 6, _ => (gw_n [false, false, false, true, true, false, false, true, true, false] h rfl)
    | m + 7, hj => absurd hj (Nat.not_lt.mpr (Nat.le_add_left 7 m))) hA
theorem gw_s3 (h : narrow_1.before args s = true) (hts : ∀ w ∈ lw_tbl, w.before args s = true) (hA : ∀ a : Nat, a < s.heap.size → ¬ A a) : ∃ q, gw_S A s ("SubstituteDesk$SchoolText", 107, "room", 3) [114, 111, 111, 109] q :=
  gw_Sof (hts _ (gw_t3 138 rfl)) (by decide) (gw_n [false, false, false, true, true, false, false, true, true, true] h rfl) (gw_n [false, false, false, true, true, false, true, false, false, false] h rfl) (gw_n [false, false, false, true, true, false, true, false, false, true] h rfl) (gw_n [false, false, false, true, true, false, true, false, true, false] h rfl) (fun j hj => match j, hj with
    | 0, _ => (gw_n [false, false, false, true, true, false, true, false, true, true] h rfl)
    | 1, _ => (gw_n [false, false, false, true, true, false, true, true, false, false] h rfl)
    | 2, _ => (gw_n [false, false, false, true, true, false, true, true, false, true] h rfl)
    | 3, _ => (gw_n [false, false, false, true, true, false, true, true, true, false] h rfl)
    | m + 4, hj => absurd hj (Nat.not_lt.mpr (Nat.le_add_left 4 m))) hA
theorem gw_s4 (h : narrow_1.before args s = true) (hts : ∀ w ∈ lw_tbl, w.before args s = true) (hA : ∀ a : Nat, a < s.heap.size → ¬ A a) : ∃ q, gw_S A s ("SubstituteDesk$SchoolText", 112, "classes", 4) [99, 108, 97, 115, 115, 101, 115] q :=
  gw_Sof (hts _ (gw_t3 144 rfl)) (by decide) (gw_n [false, false, false, true, true, false, true, true, true, true] h rfl) (gw_n [false, false, false, true, true, true, false, false, false, false] h rfl) (gw_n [false, false, false, true, true, true, false, false, false, true] h rfl) (gw_n [false, false, false, true, true, true, false, false, true, false] h rfl) (fun j hj => match j, hj with
    | 0, _ => (gw_n [false, false, false, true, true, true, false, false, true, true] h rfl)
    | 1, _ => (gw_n [false, false, false, true, true, true, false, true, false, false] h rfl)
    | 2, _ => (gw_n [false, false, false, true, true, true, false, true, false, true] h rfl)
    | 3, _ => (gw_n [false, false, false, true, true, true, false, true, true, false] h rfl)
    | 4, _ => (gw_n [false, false, false, true, true, true, false, true, true, true] h rfl)
    | 5, _ => (gw_n [false, false, false, true, true, true, true, false, false, false] h rfl)
    | 6, _ => (gw_n [false, false, false, true, true, true, true, false, false, true] h rfl)
    | m + 7, hj => absurd hj (Nat.not_lt.mpr (Nat.le_add_left 7 m))) hA
theorem gw_s5 (h : narrow_1.before args s = true) (hts : ∀ w ∈ lw_tbl, w.before args s = true) (hA : ∀ a : Nat, a < s.heap.size → ¬ A a) : ∃ q, gw_S A s ("SubstituteDesk$SchoolText", 116, "lesson", 5) [108, 101, 115, 115, 111, 110] q :=
  gw_Sof (hts _ (gw_t3 149 rfl)) (by decide) (gw_n [false, false, false, true, true, true, true, false, true, false] h rfl) (gw_n [false, false, false, true, true, true, true, false, true, true] h rfl) (gw_n [false, false, false, true, true, true, true, true, false, false] h rfl) (gw_n [false, false, false, true, true, true, true, true, false, true] h rfl) (fun j hj => match j, hj with
    | 0, _ => (gw_n [false, false, false, true, true, true, true, true, true, false] h rfl)
    | 1, _ => (gw_n [false, false, false, true, true, true, true, true, true, true] h rfl)
    | 2, _ => (gw_n [false, false, true, false, false, false, false, false, false, false] h rfl)
    | 3, _ => (gw_n [false, false, true, false, false, false, false, false, false, true] h rfl)
    | 4, _ => (gw_n [false, false, true, false, false, false, false, false, true, false] h rfl)
    | 5, _ => (gw_n [false, false, true, false, false, false, false, false, true, true] h rfl)
    | m + 6, hj => absurd hj (Nat.not_lt.mpr (Nat.le_add_left 6 m))) hA
theorem gw_s6 (h : narrow_1.before args s = true) (hts : ∀ w ∈ lw_tbl, w.before args s = true) (hA : ∀ a : Nat, a < s.heap.size → ¬ A a) : ∃ q, gw_S A s ("SubstituteDesk$ScriptText", 63, "absent", 6) [97, 98, 115, 101, 110, 116] q :=
  gw_Sof (hts _ (gw_t3 218 rfl)) (by decide) (gw_n [false, false, true, false, false, false, false, true, false, false] h rfl) (gw_n [false, false, true, false, false, false, false, true, false, true] h rfl) (gw_n [false, false, true, false, false, false, false, true, true, false] h rfl) (gw_n [false, false, true, false, false, false, false, true, true, true] h rfl) (fun j hj => match j, hj with
    | 0, _ => (gw_n [false, false, true, false, false, false, true, false, false, false] h rfl)
    | 1, _ => (gw_n [false, false, true, false, false, false, true, false, false, true] h rfl)
    | 2, _ => (gw_n [false, false, true, false, false, false, true, false, true, false] h rfl)
    | 3, _ => (gw_n [false, false, true, false, false, false, true, false, true, true] h rfl)
    | 4, _ => (gw_n [false, false, true, false, false, false, true, true, false, false] h rfl)
    | 5, _ => (gw_n [false, false, true, false, false, false, true, true, false, true] h rfl)
    | m + 6, hj => absurd hj (Nat.not_lt.mpr (Nat.le_add_left 6 m))) hA
theorem gw_s7 (h : narrow_1.before args s = true) (hts : ∀ w ∈ lw_tbl, w.before args s = true) (hA : ∀ a : Nat, a < s.heap.size → ¬ A a) : ∃ q, gw_S A s ("SubstituteDesk$ScriptText", 65, "present", 7) [112, 114, 101, 115, 101, 110, 116] q :=
  gw_Sof (hts _ (gw_t3 219 rfl)) (by decide) (gw_n [false, false, true, false, false, false, true, true, true, false] h rfl) (gw_n [false, false, true, false, false, false, true, true, true, true] h rfl) (gw_n [false, false, true, false, false, true, false, false, false, false] h rfl) (gw_n [false, false, true, false, false, true, false, false, false, true] h rfl) (fun j hj => match j, hj with
    | 0, _ => (gw_n [false, false, true, false, false, true, false, false, true, false] h rfl)
    | 1, _ => (gw_n [false, false, true, false, false, true, false, false, true, true] h rfl)
    | 2, _ => (gw_n [false, false, true, false, false, true, false, true, false, false] h rfl)
    | 3, _ => (gw_n [false, false, true, false, false, true, false, true, false, true] h rfl)
    | 4, _ => (gw_n [false, false, true, false, false, true, false, true, true, false] h rfl)
    | 5, _ => (gw_n [false, false, true, false, false, true, false, true, true, true] h rfl)
    | 6, _ => (gw_n [false, false, true, false, false, true, true, false, false, false] h rfl)
    | m + 7, hj => absurd hj (Nat.not_lt.mpr (Nat.le_add_left 7 m))) hA
theorem gw_s8 (h : narrow_1.before args s = true) (hts : ∀ w ∈ lw_tbl, w.before args s = true) (hA : ∀ a : Nat, a < s.heap.size → ¬ A a) : ∃ q, gw_S A s ("SubstituteDesk$ScriptText", 67, "cover", 8) [99, 111, 118, 101, 114] q :=
  gw_Sof (hts _ (gw_t3 220 rfl)) (by decide) (gw_n [false, false, true, false, false, true, true, false, false, true] h rfl) (gw_n [false, false, true, false, false, true, true, false, true, false] h rfl) (gw_n [false, false, true, false, false, true, true, false, true, true] h rfl) (gw_n [false, false, true, false, false, true, true, true, false, false] h rfl) (fun j hj => match j, hj with
    | 0, _ => (gw_n [false, false, true, false, false, true, true, true, false, true] h rfl)
    | 1, _ => (gw_n [false, false, true, false, false, true, true, true, true, false] h rfl)
    | 2, _ => (gw_n [false, false, true, false, false, true, true, true, true, true] h rfl)
    | 3, _ => (gw_n [false, false, true, false, true, false, false, false, false, false] h rfl)
    | 4, _ => (gw_n [false, false, true, false, true, false, false, false, false, true] h rfl)
    | m + 5, hj => absurd hj (Nat.not_lt.mpr (Nat.le_add_left 5 m))) hA
theorem gw_s9 (h : narrow_1.before args s = true) (hts : ∀ w ∈ lw_tbl, w.before args s = true) (hA : ∀ a : Nat, a < s.heap.size → ¬ A a) : ∃ q, gw_S A s ("SubstituteDesk$ScriptText", 69, "watch", 9) [119, 97, 116, 99, 104] q :=
  gw_Sof (hts _ (gw_t3 221 rfl)) (by decide) (gw_n [false, false, true, false, true, false, false, false, true, false] h rfl) (gw_n [false, false, true, false, true, false, false, false, true, true] h rfl) (gw_n [false, false, true, false, true, false, false, true, false, false] h rfl) (gw_n [false, false, true, false, true, false, false, true, false, true] h rfl) (fun j hj => match j, hj with
    | 0, _ => (gw_n [false, false, true, false, true, false, false, true, true, false] h rfl)
    | 1, _ => (gw_n [false, false, true, false, true, false, false, true, true, true] h rfl)
    | 2, _ => (gw_n [false, false, true, false, true, false, true, false, false, false] h rfl)
    | 3, _ => (gw_n [false, false, true, false, true, false, true, false, false, true] h rfl)
    | 4, _ => (gw_n [false, false, true, false, true, false, true, false, true, false] h rfl)
    | m + 5, hj => absurd hj (Nat.not_lt.mpr (Nat.le_add_left 5 m))) hA
theorem gw_s10 (h : narrow_1.before args s = true) (hts : ∀ w ∈ lw_tbl, w.before args s = true) (hA : ∀ a : Nat, a < s.heap.size → ¬ A a) : ∃ q, gw_S A s ("SubstituteDesk$ScriptText", 71, "swap", 10) [115, 119, 97, 112] q :=
  gw_Sof (hts _ (gw_t3 222 rfl)) (by decide) (gw_n [false, false, true, false, true, false, true, false, true, true] h rfl) (gw_n [false, false, true, false, true, false, true, true, false, false] h rfl) (gw_n [false, false, true, false, true, false, true, true, false, true] h rfl) (gw_n [false, false, true, false, true, false, true, true, true, false] h rfl) (fun j hj => match j, hj with
    | 0, _ => (gw_n [false, false, true, false, true, false, true, true, true, true] h rfl)
    | 1, _ => (gw_n [false, false, true, false, true, true, false, false, false, false] h rfl)
    | 2, _ => (gw_n [false, false, true, false, true, true, false, false, false, true] h rfl)
    | 3, _ => (gw_n [false, false, true, false, true, true, false, false, true, false] h rfl)
    | m + 4, hj => absurd hj (Nat.not_lt.mpr (Nat.le_add_left 4 m))) hA
theorem gw_s11 (h : narrow_1.before args s = true) (hts : ∀ w ∈ lw_tbl, w.before args s = true) (hA : ∀ a : Nat, a < s.heap.size → ¬ A a) : ∃ q, gw_S A s ("SubstituteDesk$ScriptText", 73, "move", 11) [109, 111, 118, 101] q :=
  gw_Sof (hts _ (gw_t3 223 rfl)) (by decide) (gw_n [false, false, true, false, true, true, false, false, true, true] h rfl) (gw_n [false, false, true, false, true, true, false, true, false, false] h rfl) (gw_n [false, false, true, false, true, true, false, true, false, true] h rfl) (gw_n [false, false, true, false, true, true, false, true, true, false] h rfl) (fun j hj => match j, hj with
    | 0, _ => (gw_n [false, false, true, false, true, true, false, true, true, true] h rfl)
    | 1, _ => (gw_n [false, false, true, false, true, true, true, false, false, false] h rfl)
    | 2, _ => (gw_n [false, false, true, false, true, true, true, false, false, true] h rfl)
    | 3, _ => (gw_n [false, false, true, false, true, true, true, false, true, false] h rfl)
    | m + 4, hj => absurd hj (Nat.not_lt.mpr (Nat.le_add_left 4 m))) hA
theorem gw_s12 (h : narrow_1.before args s = true) (hts : ∀ w ∈ lw_tbl, w.before args s = true) (hA : ∀ a : Nat, a < s.heap.size → ¬ A a) : ∃ q, gw_S A s ("SubstituteDesk$ScriptText", 75, "room", 12) [114, 111, 111, 109] q :=
  gw_Sof (hts _ (gw_t3 224 rfl)) (by decide) (gw_n [false, false, true, false, true, true, true, false, true, true] h rfl) (gw_n [false, false, true, false, true, true, true, true, false, false] h rfl) (gw_n [false, false, true, false, true, true, true, true, false, true] h rfl) (gw_n [false, false, true, false, true, true, true, true, true, false] h rfl) (fun j hj => match j, hj with
    | 0, _ => (gw_n [false, false, true, false, true, true, true, true, true, true] h rfl)
    | 1, _ => (gw_n [false, false, true, true, false, false, false, false, false, false] h rfl)
    | 2, _ => (gw_n [false, false, true, true, false, false, false, false, false, true] h rfl)
    | 3, _ => (gw_n [false, false, true, true, false, false, false, false, true, false] h rfl)
    | m + 4, hj => absurd hj (Nat.not_lt.mpr (Nat.le_add_left 4 m))) hA
theorem gw_s13 (h : narrow_1.before args s = true) (hts : ∀ w ∈ lw_tbl, w.before args s = true) (hA : ∀ a : Nat, a < s.heap.size → ¬ A a) : ∃ q, gw_S A s ("SubstituteDesk$ScriptText", 77, "repair", 13) [114, 101, 112, 97, 105, 114] q :=
  gw_Sof (hts _ (gw_t3 225 rfl)) (by decide) (gw_n [false, false, true, true, false, false, false, true, false, false] h rfl) (gw_n [false, false, true, true, false, false, false, true, false, true] h rfl) (gw_n [false, false, true, true, false, false, false, true, true, false] h rfl) (gw_n [false, false, true, true, false, false, false, true, true, true] h rfl) (fun j hj => match j, hj with
    | 0, _ => (gw_n [false, false, true, true, false, false, true, false, false, false] h rfl)
    | 1, _ => (gw_n [false, false, true, true, false, false, true, false, false, true] h rfl)
    | 2, _ => (gw_n [false, false, true, true, false, false, true, false, true, false] h rfl)
    | 3, _ => (gw_n [false, false, true, true, false, false, true, false, true, true] h rfl)
    | 4, _ => (gw_n [false, false, true, true, false, false, true, true, false, false] h rfl)
    | 5, _ => (gw_n [false, false, true, true, false, false, true, true, false, true] h rfl)
    | m + 6, hj => absurd hj (Nat.not_lt.mpr (Nat.le_add_left 6 m))) hA
theorem gw_s14 (h : narrow_1.before args s = true) (hts : ∀ w ∈ lw_tbl, w.before args s = true) (hA : ∀ a : Nat, a < s.heap.size → ¬ A a) : ∃ q, gw_S A s ("SubstituteDesk$ScriptText", 79, "open", 14) [111, 112, 101, 110] q :=
  gw_Sof (hts _ (gw_t3 226 rfl)) (by decide) (gw_n [false, false, true, true, false, false, true, true, true, false] h rfl) (gw_n [false, false, true, true, false, false, true, true, true, true] h rfl) (gw_n [false, false, true, true, false, true, false, false, false, false] h rfl) (gw_n [false, false, true, true, false, true, false, false, false, true] h rfl) (fun j hj => match j, hj with
    | 0, _ => (gw_n [false, false, true, true, false, true, false, false, true, false] h rfl)
    | 1, _ => (gw_n [false, false, true, true, false, true, false, false, true, true] h rfl)
    | 2, _ => (gw_n [false, false, true, true, false, true, false, true, false, false] h rfl)
    | 3, _ => (gw_n [false, false, true, true, false, true, false, true, false, true] h rfl)
    | m + 4, hj => absurd hj (Nat.not_lt.mpr (Nat.le_add_left 4 m))) hA
theorem gw_s15 (h : narrow_1.before args s = true) (hts : ∀ w ∈ lw_tbl, w.before args s = true) (hA : ∀ a : Nat, a < s.heap.size → ¬ A a) : ∃ q, gw_S A s ("SubstituteDesk$ScriptText", 81, "all", 15) [97, 108, 108] q :=
  gw_Sof (hts _ (gw_t3 227 rfl)) (by decide) (gw_n [false, false, true, true, false, true, false, true, true, false] h rfl) (gw_n [false, false, true, true, false, true, false, true, true, true] h rfl) (gw_n [false, false, true, true, false, true, true, false, false, false] h rfl) (gw_n [false, false, true, true, false, true, true, false, false, true] h rfl) (fun j hj => match j, hj with
    | 0, _ => (gw_n [false, false, true, true, false, true, true, false, true, false] h rfl)
    | 1, _ => (gw_n [false, false, true, true, false, true, true, false, true, true] h rfl)
    | 2, _ => (gw_n [false, false, true, true, false, true, true, true, false, false] h rfl)
    | m + 3, hj => absurd hj (Nat.not_lt.mpr (Nat.le_add_left 3 m))) hA
theorem gw_s16 (h : narrow_1.before args s = true) (hts : ∀ w ∈ lw_tbl, w.before args s = true) (hA : ∀ a : Nat, a < s.heap.size → ¬ A a) : ∃ q, gw_S A s ("SubstituteDesk", 101, "the text would be too long", 16) [116, 104, 101, 32, 116, 101, 120, 116, 32, 119, 111, 117, 108, 100, 32, 98, 101, 32, 116, 111, 111, 32, 108, 111, 110, 103] q :=
  gw_Sof (hts _ (gw_t5 53 rfl)) (by decide) (gw_n [false, false, true, true, false, true, true, true, false, true] h rfl) (gw_n [false, false, true, true, false, true, true, true, true, false] h rfl) (gw_n [false, false, true, true, false, true, true, true, true, true] h rfl) (gw_n [false, false, true, true, true, false, false, false, false, false] h rfl) (fun j hj => match j, hj with
    | 0, _ => (gw_n [false, false, true, true, true, false, false, false, false, true] h rfl)
    | 1, _ => (gw_n [false, false, true, true, true, false, false, false, true, false] h rfl)
    | 2, _ => (gw_n [false, false, true, true, true, false, false, false, true, true] h rfl)
    | 3, _ => (gw_n [false, false, true, true, true, false, false, true, false, false] h rfl)
    | 4, _ => (gw_n [false, false, true, true, true, false, false, true, false, true] h rfl)
    | 5, _ => (gw_n [false, false, true, true, true, false, false, true, true, false] h rfl)
    | 6, _ => (gw_n [false, false, true, true, true, false, false, true, true, true] h rfl)
    | 7, _ => (gw_n [false, false, true, true, true, false, true, false, false, false] h rfl)
    | 8, _ => (gw_n [false, false, true, true, true, false, true, false, false, true] h rfl)
    | 9, _ => (gw_n [false, false, true, true, true, false, true, false, true, false] h rfl)
    | 10, _ => (gw_n [false, false, true, true, true, false, true, false, true, true] h rfl)
    | 11, _ => (gw_n [false, false, true, true, true, false, true, true, false, false] h rfl)
    | 12, _ => (gw_n [false, false, true, true, true, false, true, true, false, true] h rfl)
    | 13, _ => (gw_n [false, false, true, true, true, false, true, true, true, false] h rfl)
    | 14, _ => (gw_n [false, false, true, true, true, false, true, true, true, true] h rfl)
    | 15, _ => (gw_n [false, false, true, true, true, true, false, false, false, false] h rfl)
    | 16, _ => (gw_n [false, false, true, true, true, true, false, false, false, true] h rfl)
    | 17, _ => (gw_n [false, false, true, true, true, true, false, false, true, false] h rfl)
    | 18, _ => (gw_n [false, false, true, true, true, true, false, false, true, true] h rfl)
    | 19, _ => (gw_n [false, false, true, true, true, true, false, true, false, false] h rfl)
    | 20, _ => (gw_n [false, false, true, true, true, true, false, true, false, true] h rfl)
    | 21, _ => (gw_n [false, false, true, true, true, true, false, true, true, false] h rfl)
    | 22, _ => (gw_n [false, false, true, true, true, true, false, true, true, true] h rfl)
    | 23, _ => (gw_n [false, false, true, true, true, true, true, false, false, false] h rfl)
    | 24, _ => (gw_n [false, false, true, true, true, true, true, false, false, true] h rfl)
    | 25, _ => (gw_n [false, false, true, true, true, true, true, false, true, false] h rfl)
    | m + 26, hj => absurd hj (Nat.not_lt.mpr (Nat.le_add_left 26 m))) hA
theorem gw_s17 (h : narrow_1.before args s = true) (hts : ∀ w ∈ lw_tbl, w.before args s = true) (hA : ∀ a : Nat, a < s.heap.size → ¬ A a) : ∃ q, gw_S A s ("SubstituteDesk", 112, "the text has no such length", 17) [116, 104, 101, 32, 116, 101, 120, 116, 32, 104, 97, 115, 32, 110, 111, 32, 115, 117, 99, 104, 32, 108, 101, 110, 103, 116, 104] q :=
  gw_Sof (hts _ (gw_t5 101 rfl)) (by decide) (gw_n [false, false, true, true, true, true, true, false, true, true] h rfl) (gw_n [false, false, true, true, true, true, true, true, false, false] h rfl) (gw_n [false, false, true, true, true, true, true, true, false, true] h rfl) (gw_n [false, false, true, true, true, true, true, true, true, false] h rfl) (fun j hj => match j, hj with
    | 0, _ => (gw_n [false, false, true, true, true, true, true, true, true, true] h rfl)
    | 1, _ => (gw_n [false, true, false, false, false, false, false, false, false, false] h rfl)
    | 2, _ => (gw_n [false, true, false, false, false, false, false, false, false, true] h rfl)
    | 3, _ => (gw_n [false, true, false, false, false, false, false, false, true, false] h rfl)
    | 4, _ => (gw_n [false, true, false, false, false, false, false, false, true, true] h rfl)
    | 5, _ => (gw_n [false, true, false, false, false, false, false, true, false, false] h rfl)
    | 6, _ => (gw_n [false, true, false, false, false, false, false, true, false, true] h rfl)
    | 7, _ => (gw_n [false, true, false, false, false, false, false, true, true, false] h rfl)
    | 8, _ => (gw_n [false, true, false, false, false, false, false, true, true, true] h rfl)
    | 9, _ => (gw_n [false, true, false, false, false, false, true, false, false, false] h rfl)
    | 10, _ => (gw_n [false, true, false, false, false, false, true, false, false, true] h rfl)
    | 11, _ => (gw_n [false, true, false, false, false, false, true, false, true, false] h rfl)
    | 12, _ => (gw_n [false, true, false, false, false, false, true, false, true, true] h rfl)
    | 13, _ => (gw_n [false, true, false, false, false, false, true, true, false, false] h rfl)
    | 14, _ => (gw_n [false, true, false, false, false, false, true, true, false, true] h rfl)
    | 15, _ => (gw_n [false, true, false, false, false, false, true, true, true, false] h rfl)
    | 16, _ => (gw_n [false, true, false, false, false, false, true, true, true, true] h rfl)
    | 17, _ => (gw_n [false, true, false, false, false, true, false, false, false, false] h rfl)
    | 18, _ => (gw_n [false, true, false, false, false, true, false, false, false, true] h rfl)
    | 19, _ => (gw_n [false, true, false, false, false, true, false, false, true, false] h rfl)
    | 20, _ => (gw_n [false, true, false, false, false, true, false, false, true, true] h rfl)
    | 21, _ => (gw_n [false, true, false, false, false, true, false, true, false, false] h rfl)
    | 22, _ => (gw_n [false, true, false, false, false, true, false, true, false, true] h rfl)
    | 23, _ => (gw_n [false, true, false, false, false, true, false, true, true, false] h rfl)
    | 24, _ => (gw_n [false, true, false, false, false, true, false, true, true, true] h rfl)
    | 25, _ => (gw_n [false, true, false, false, false, true, true, false, false, false] h rfl)
    | 26, _ => (gw_n [false, true, false, false, false, true, true, false, false, true] h rfl)
    | m + 27, hj => absurd hj (Nat.not_lt.mpr (Nat.le_add_left 27 m))) hA
theorem gw_s18 (h : narrow_1.before args s = true) (hts : ∀ w ∈ lw_tbl, w.before args s = true) (hA : ∀ a : Nat, a < s.heap.size → ¬ A a) : ∃ q, gw_S A s ("SubstituteDesk", 427, "there is no such teacher", 18) [116, 104, 101, 114, 101, 32, 105, 115, 32, 110, 111, 32, 115, 117, 99, 104, 32, 116, 101, 97, 99, 104, 101, 114] q :=
  gw_Sof (hts _ (gw_t5 130 rfl)) (by decide) (gw_n [false, true, false, false, false, true, true, false, true, false] h rfl) (gw_n [false, true, false, false, false, true, true, false, true, true] h rfl) (gw_n [false, true, false, false, false, true, true, true, false, false] h rfl) (gw_n [false, true, false, false, false, true, true, true, false, true] h rfl) (fun j hj => match j, hj with
    | 0, _ => (gw_n [false, true, false, false, false, true, true, true, true, false] h rfl)
    | 1, _ => (gw_n [false, true, false, false, false, true, true, true, true, true] h rfl)
    | 2, _ => (gw_n [false, true, false, false, true, false, false, false, false, false] h rfl)
    | 3, _ => (gw_n [false, true, false, false, true, false, false, false, false, true] h rfl)
    | 4, _ => (gw_n [false, true, false, false, true, false, false, false, true, false] h rfl)
    | 5, _ => (gw_n [false, true, false, false, true, false, false, false, true, true] h rfl)
    | 6, _ => (gw_n [false, true, false, false, true, false, false, true, false, false] h rfl)
    | 7, _ => (gw_n [false, true, false, false, true, false, false, true, false, true] h rfl)
    | 8, _ => (gw_n [false, true, false, false, true, false, false, true, true, false] h rfl)
    | 9, _ => (gw_n [false, true, false, false, true, false, false, true, true, true] h rfl)
    | 10, _ => (gw_n [false, true, false, false, true, false, true, false, false, false] h rfl)
    | 11, _ => (gw_n [false, true, false, false, true, false, true, false, false, true] h rfl)
    | 12, _ => (gw_n [false, true, false, false, true, false, true, false, true, false] h rfl)
    | 13, _ => (gw_n [false, true, false, false, true, false, true, false, true, true] h rfl)
    | 14, _ => (gw_n [false, true, false, false, true, false, true, true, false, false] h rfl)
    | 15, _ => (gw_n [false, true, false, false, true, false, true, true, false, true] h rfl)
    | 16, _ => (gw_n [false, true, false, false, true, false, true, true, true, false] h rfl)
    | 17, _ => (gw_n [false, true, false, false, true, false, true, true, true, true] h rfl)
    | 18, _ => (gw_n [false, true, false, false, true, true, false, false, false, false] h rfl)
    | 19, _ => (gw_n [false, true, false, false, true, true, false, false, false, true] h rfl)
    | 20, _ => (gw_n [false, true, false, false, true, true, false, false, true, false] h rfl)
    | 21, _ => (gw_n [false, true, false, false, true, true, false, false, true, true] h rfl)
    | 22, _ => (gw_n [false, true, false, false, true, true, false, true, false, false] h rfl)
    | 23, _ => (gw_n [false, true, false, false, true, true, false, true, false, true] h rfl)
    | m + 24, hj => absurd hj (Nat.not_lt.mpr (Nat.le_add_left 24 m))) hA
theorem gw_s19 (h : narrow_1.before args s = true) (hts : ∀ w ∈ lw_tbl, w.before args s = true) (hA : ∀ a : Nat, a < s.heap.size → ¬ A a) : ∃ q, gw_S A s ("SubstituteDesk", 432, "there is no such day", 19) [116, 104, 101, 114, 101, 32, 105, 115, 32, 110, 111, 32, 115, 117, 99, 104, 32, 100, 97, 121] q :=
  gw_Sof (hts _ (gw_t5 142 rfl)) (by decide) (gw_n [false, true, false, false, true, true, false, true, true, false] h rfl) (gw_n [false, true, false, false, true, true, false, true, true, true] h rfl) (gw_n [false, true, false, false, true, true, true, false, false, false] h rfl) (gw_n [false, true, false, false, true, true, true, false, false, true] h rfl) (fun j hj => match j, hj with
    | 0, _ => (gw_n [false, true, false, false, true, true, true, false, true, false] h rfl)
    | 1, _ => (gw_n [false, true, false, false, true, true, true, false, true, true] h rfl)
    | 2, _ => (gw_n [false, true, false, false, true, true, true, true, false, false] h rfl)
    | 3, _ => (gw_n [false, true, false, false, true, true, true, true, false, true] h rfl)
    | 4, _ => (gw_n [false, true, false, false, true, true, true, true, true, false] h rfl)
    | 5, _ => (gw_n [false, true, false, false, true, true, true, true, true, true] h rfl)
    | 6, _ => (gw_n [false, true, false, true, false, false, false, false, false, false] h rfl)
    | 7, _ => (gw_n [false, true, false, true, false, false, false, false, false, true] h rfl)
    | 8, _ => (gw_n [false, true, false, true, false, false, false, false, true, false] h rfl)
    | 9, _ => (gw_n [false, true, false, true, false, false, false, false, true, true] h rfl)
    | 10, _ => (gw_n [false, true, false, true, false, false, false, true, false, false] h rfl)
    | 11, _ => (gw_n [false, true, false, true, false, false, false, true, false, true] h rfl)
    | 12, _ => (gw_n [false, true, false, true, false, false, false, true, true, false] h rfl)
    | 13, _ => (gw_n [false, true, false, true, false, false, false, true, true, true] h rfl)
    | 14, _ => (gw_n [false, true, false, true, false, false, true, false, false, false] h rfl)
    | 15, _ => (gw_n [false, true, false, true, false, false, true, false, false, true] h rfl)
    | 16, _ => (gw_n [false, true, false, true, false, false, true, false, true, false] h rfl)
    | 17, _ => (gw_n [false, true, false, true, false, false, true, false, true, true] h rfl)
    | 18, _ => (gw_n [false, true, false, true, false, false, true, true, false, false] h rfl)
    | 19, _ => (gw_n [false, true, false, true, false, false, true, true, false, true] h rfl)
    | m + 20, hj => absurd hj (Nat.not_lt.mpr (Nat.le_add_left 20 m))) hA
theorem gw_s20 (h : narrow_1.before args s = true) (hts : ∀ w ∈ lw_tbl, w.before args s = true) (hA : ∀ a : Nat, a < s.heap.size → ¬ A a) : ∃ q, gw_S A s ("SubstituteDesk", 422, "there is no such lesson", 20) [116, 104, 101, 114, 101, 32, 105, 115, 32, 110, 111, 32, 115, 117, 99, 104, 32, 108, 101, 115, 115, 111, 110] q :=
  gw_Sof (hts _ (gw_t5 156 rfl)) (by decide) (gw_n [false, true, false, true, false, false, true, true, true, false] h rfl) (gw_n [false, true, false, true, false, false, true, true, true, true] h rfl) (gw_n [false, true, false, true, false, true, false, false, false, false] h rfl) (gw_n [false, true, false, true, false, true, false, false, false, true] h rfl) (fun j hj => match j, hj with
    | 0, _ => (gw_n [false, true, false, true, false, true, false, false, true, false] h rfl)
    | 1, _ => (gw_n [false, true, false, true, false, true, false, false, true, true] h rfl)
    | 2, _ => (gw_n [false, true, false, true, false, true, false, true, false, false] h rfl)
    | 3, _ => (gw_n [false, true, false, true, false, true, false, true, false, true] h rfl)
    | 4, _ => (gw_n [false, true, false, true, false, true, false, true, true, false] h rfl)
    | 5, _ => (gw_n [false, true, false, true, false, true, false, true, true, true] h rfl)
    | 6, _ => (gw_n [false, true, false, true, false, true, true, false, false, false] h rfl)
    | 7, _ => (gw_n [false, true, false, true, false, true, true, false, false, true] h rfl)
    | 8, _ => (gw_n [false, true, false, true, false, true, true, false, true, false] h rfl)
    | 9, _ => (gw_n [false, true, false, true, false, true, true, false, true, true] h rfl)
    | 10, _ => (gw_n [false, true, false, true, false, true, true, true, false, false] h rfl)
    | 11, _ => (gw_n [false, true, false, true, false, true, true, true, false, true] h rfl)
    | 12, _ => (gw_n [false, true, false, true, false, true, true, true, true, false] h rfl)
    | 13, _ => (gw_n [false, true, false, true, false, true, true, true, true, true] h rfl)
    | 14, _ => (gw_n [false, true, false, true, true, false, false, false, false, false] h rfl)
    | 15, _ => (gw_n [false, true, false, true, true, false, false, false, false, true] h rfl)
    | 16, _ => (gw_n [false, true, false, true, true, false, false, false, true, false] h rfl)
    | 17, _ => (gw_n [false, true, false, true, true, false, false, false, true, true] h rfl)
    | 18, _ => (gw_n [false, true, false, true, true, false, false, true, false, false] h rfl)
    | 19, _ => (gw_n [false, true, false, true, true, false, false, true, false, true] h rfl)
    | 20, _ => (gw_n [false, true, false, true, true, false, false, true, true, false] h rfl)
    | 21, _ => (gw_n [false, true, false, true, true, false, false, true, true, true] h rfl)
    | 22, _ => (gw_n [false, true, false, true, true, false, true, false, false, false] h rfl)
    | m + 23, hj => absurd hj (Nat.not_lt.mpr (Nat.le_add_left 23 m))) hA
theorem gw_s21 (h : narrow_1.before args s = true) (hts : ∀ w ∈ lw_tbl, w.before args s = true) (hA : ∀ a : Nat, a < s.heap.size → ¬ A a) : ∃ q, gw_S A s ("SubstituteDesk", 446, "it is refused", 21) [105, 116, 32, 105, 115, 32, 114, 101, 102, 117, 115, 101, 100] q :=
  gw_Sof (hts _ (gw_t5 162 rfl)) (by decide) (gw_n [false, true, false, true, true, false, true, false, false, true] h rfl) (gw_n [false, true, false, true, true, false, true, false, true, false] h rfl) (gw_n [false, true, false, true, true, false, true, false, true, true] h rfl) (gw_n [false, true, false, true, true, false, true, true, false, false] h rfl) (fun j hj => match j, hj with
    | 0, _ => (gw_n [false, true, false, true, true, false, true, true, false, true] h rfl)
    | 1, _ => (gw_n [false, true, false, true, true, false, true, true, true, false] h rfl)
    | 2, _ => (gw_n [false, true, false, true, true, false, true, true, true, true] h rfl)
    | 3, _ => (gw_n [false, true, false, true, true, true, false, false, false, false] h rfl)
    | 4, _ => (gw_n [false, true, false, true, true, true, false, false, false, true] h rfl)
    | 5, _ => (gw_n [false, true, false, true, true, true, false, false, true, false] h rfl)
    | 6, _ => (gw_n [false, true, false, true, true, true, false, false, true, true] h rfl)
    | 7, _ => (gw_n [false, true, false, true, true, true, false, true, false, false] h rfl)
    | 8, _ => (gw_n [false, true, false, true, true, true, false, true, false, true] h rfl)
    | 9, _ => (gw_n [false, true, false, true, true, true, false, true, true, false] h rfl)
    | 10, _ => (gw_n [false, true, false, true, true, true, false, true, true, true] h rfl)
    | 11, _ => (gw_n [false, true, false, true, true, true, true, false, false, false] h rfl)
    | 12, _ => (gw_n [false, true, false, true, true, true, true, false, false, true] h rfl)
    | m + 13, hj => absurd hj (Nat.not_lt.mpr (Nat.le_add_left 13 m))) hA
theorem gw_s22 (h : narrow_1.before args s = true) (hts : ∀ w ∈ lw_tbl, w.before args s = true) (hA : ∀ a : Nat, a < s.heap.size → ¬ A a) : ∃ q, gw_S A s ("SubstituteDesk", 437, "there is no such slot", 22) [116, 104, 101, 114, 101, 32, 105, 115, 32, 110, 111, 32, 115, 117, 99, 104, 32, 115, 108, 111, 116] q :=
  gw_Sof (hts _ (gw_t5 203 rfl)) (by decide) (gw_n [false, true, false, true, true, true, true, false, true, false] h rfl) (gw_n [false, true, false, true, true, true, true, false, true, true] h rfl) (gw_n [false, true, false, true, true, true, true, true, false, false] h rfl) (gw_n [false, true, false, true, true, true, true, true, false, true] h rfl) (fun j hj => match j, hj with
    | 0, _ => (gw_n [false, true, false, true, true, true, true, true, true, false] h rfl)
    | 1, _ => (gw_n [false, true, false, true, true, true, true, true, true, true] h rfl)
    | 2, _ => (gw_n [false, true, true, false, false, false, false, false, false, false] h rfl)
    | 3, _ => (gw_n [false, true, true, false, false, false, false, false, false, true] h rfl)
    | 4, _ => (gw_n [false, true, true, false, false, false, false, false, true, false] h rfl)
    | 5, _ => (gw_n [false, true, true, false, false, false, false, false, true, true] h rfl)
    | 6, _ => (gw_n [false, true, true, false, false, false, false, true, false, false] h rfl)
    | 7, _ => (gw_n [false, true, true, false, false, false, false, true, false, true] h rfl)
    | 8, _ => (gw_n [false, true, true, false, false, false, false, true, true, false] h rfl)
    | 9, _ => (gw_n [false, true, true, false, false, false, false, true, true, true] h rfl)
    | 10, _ => (gw_n [false, true, true, false, false, false, true, false, false, false] h rfl)
    | 11, _ => (gw_n [false, true, true, false, false, false, true, false, false, true] h rfl)
    | 12, _ => (gw_n [false, true, true, false, false, false, true, false, true, false] h rfl)
    | 13, _ => (gw_n [false, true, true, false, false, false, true, false, true, true] h rfl)
    | 14, _ => (gw_n [false, true, true, false, false, false, true, true, false, false] h rfl)
    | 15, _ => (gw_n [false, true, true, false, false, false, true, true, false, true] h rfl)
    | 16, _ => (gw_n [false, true, true, false, false, false, true, true, true, false] h rfl)
    | 17, _ => (gw_n [false, true, true, false, false, false, true, true, true, true] h rfl)
    | 18, _ => (gw_n [false, true, true, false, false, true, false, false, false, false] h rfl)
    | 19, _ => (gw_n [false, true, true, false, false, true, false, false, false, true] h rfl)
    | 20, _ => (gw_n [false, true, true, false, false, true, false, false, true, false] h rfl)
    | m + 21, hj => absurd hj (Nat.not_lt.mpr (Nat.le_add_left 21 m))) hA
theorem gw_s23 (h : narrow_1.before args s = true) (hts : ∀ w ∈ lw_tbl, w.before args s = true) (hA : ∀ a : Nat, a < s.heap.size → ¬ A a) : ∃ q, gw_S A s ("SubstituteDesk", 442, "there is no such room", 23) [116, 104, 101, 114, 101, 32, 105, 115, 32, 110, 111, 32, 115, 117, 99, 104, 32, 114, 111, 111, 109] q :=
  gw_Sof (hts _ (gw_t5 217 rfl)) (by decide) (gw_n [false, true, true, false, false, true, false, false, true, true] h rfl) (gw_n [false, true, true, false, false, true, false, true, false, false] h rfl) (gw_n [false, true, true, false, false, true, false, true, false, true] h rfl) (gw_n [false, true, true, false, false, true, false, true, true, false] h rfl) (fun j hj => match j, hj with
    | 0, _ => (gw_n [false, true, true, false, false, true, false, true, true, true] h rfl)
    | 1, _ => (gw_n [false, true, true, false, false, true, true, false, false, false] h rfl)
    | 2, _ => (gw_n [false, true, true, false, false, true, true, false, false, true] h rfl)
    | 3, _ => (gw_n [false, true, true, false, false, true, true, false, true, false] h rfl)
    | 4, _ => (gw_n [false, true, true, false, false, true, true, false, true, true] h rfl)
    | 5, _ => (gw_n [false, true, true, false, false, true, true, true, false, false] h rfl)
    | 6, _ => (gw_n [false, true, true, false, false, true, true, true, false, true] h rfl)
    | 7, _ => (gw_n [false, true, true, false, false, true, true, true, true, false] h rfl)
    | 8, _ => (gw_n [false, true, true, false, false, true, true, true, true, true] h rfl)
    | 9, _ => (gw_n [false, true, true, false, true, false, false, false, false, false] h rfl)
    | 10, _ => (gw_n [false, true, true, false, true, false, false, false, false, true] h rfl)
    | 11, _ => (gw_n [false, true, true, false, true, false, false, false, true, false] h rfl)
    | 12, _ => (gw_n [false, true, true, false, true, false, false, false, true, true] h rfl)
    | 13, _ => (gw_n [false, true, true, false, true, false, false, true, false, false] h rfl)
    | 14, _ => (gw_n [false, true, true, false, true, false, false, true, false, true] h rfl)
    | 15, _ => (gw_n [false, true, true, false, true, false, false, true, true, false] h rfl)
    | 16, _ => (gw_n [false, true, true, false, true, false, false, true, true, true] h rfl)
    | 17, _ => (gw_n [false, true, true, false, true, false, true, false, false, false] h rfl)
    | 18, _ => (gw_n [false, true, true, false, true, false, true, false, false, true] h rfl)
    | 19, _ => (gw_n [false, true, true, false, true, false, true, false, true, false] h rfl)
    | 20, _ => (gw_n [false, true, true, false, true, false, true, false, true, true] h rfl)
    | m + 21, hj => absurd hj (Nat.not_lt.mpr (Nat.le_add_left 21 m))) hA
theorem gw_s24 (h : narrow_1.before args s = true) (hts : ∀ w ∈ lw_tbl, w.before args s = true) (hA : ∀ a : Nat, a < s.heap.size → ¬ A a) : ∃ q, gw_S A s ("SubstituteDesk", 277, "the chain has no such teacher", 24) [116, 104, 101, 32, 99, 104, 97, 105, 110, 32, 104, 97, 115, 32, 110, 111, 32, 115, 117, 99, 104, 32, 116, 101, 97, 99, 104, 101, 114] q :=
  gw_Sof (hts _ (gw_t6 59 rfl)) (by decide) (gw_n [false, true, true, false, true, false, true, true, false, false] h rfl) (gw_n [false, true, true, false, true, false, true, true, false, true] h rfl) (gw_n [false, true, true, false, true, false, true, true, true, false] h rfl) (gw_n [false, true, true, false, true, false, true, true, true, true] h rfl) (fun j hj => match j, hj with
    | 0, _ => (gw_n [false, true, true, false, true, true, false, false, false, false] h rfl)
    | 1, _ => (gw_n [false, true, true, false, true, true, false, false, false, true] h rfl)
    | 2, _ => (gw_n [false, true, true, false, true, true, false, false, true, false] h rfl)
    | 3, _ => (gw_n [false, true, true, false, true, true, false, false, true, true] h rfl)
    | 4, _ => (gw_n [false, true, true, false, true, true, false, true, false, false] h rfl)
    | 5, _ => (gw_n [false, true, true, false, true, true, false, true, false, true] h rfl)
    | 6, _ => (gw_n [false, true, true, false, true, true, false, true, true, false] h rfl)
    | 7, _ => (gw_n [false, true, true, false, true, true, false, true, true, true] h rfl)
    | 8, _ => (gw_n [false, true, true, false, true, true, true, false, false, false] h rfl)
    | 9, _ => (gw_n [false, true, true, false, true, true, true, false, false, true] h rfl)
    | 10, _ => (gw_n [false, true, true, false, true, true, true, false, true, false] h rfl)
    | 11, _ => (gw_n [false, true, true, false, true, true, true, false, true, true] h rfl)
    | 12, _ => (gw_n [false, true, true, false, true, true, true, true, false, false] h rfl)
    | 13, _ => (gw_n [false, true, true, false, true, true, true, true, false, true] h rfl)
    | 14, _ => (gw_n [false, true, true, false, true, true, true, true, true, false] h rfl)
    | 15, _ => (gw_n [false, true, true, false, true, true, true, true, true, true] h rfl)
    | 16, _ => (gw_n [false, true, true, true, false, false, false, false, false, false] h rfl)
    | 17, _ => (gw_n [false, true, true, true, false, false, false, false, false, true] h rfl)
    | 18, _ => (gw_n [false, true, true, true, false, false, false, false, true, false] h rfl)
    | 19, _ => (gw_n [false, true, true, true, false, false, false, false, true, true] h rfl)
    | 20, _ => (gw_n [false, true, true, true, false, false, false, true, false, false] h rfl)
    | 21, _ => (gw_n [false, true, true, true, false, false, false, true, false, true] h rfl)
    | 22, _ => (gw_n [false, true, true, true, false, false, false, true, true, false] h rfl)
    | 23, _ => (gw_n [false, true, true, true, false, false, false, true, true, true] h rfl)
    | 24, _ => (gw_n [false, true, true, true, false, false, true, false, false, false] h rfl)
    | 25, _ => (gw_n [false, true, true, true, false, false, true, false, false, true] h rfl)
    | 26, _ => (gw_n [false, true, true, true, false, false, true, false, true, false] h rfl)
    | 27, _ => (gw_n [false, true, true, true, false, false, true, false, true, true] h rfl)
    | 28, _ => (gw_n [false, true, true, true, false, false, true, true, false, false] h rfl)
    | m + 29, hj => absurd hj (Nat.not_lt.mpr (Nat.le_add_left 29 m))) hA
theorem gw_s25 (h : narrow_1.before args s = true) (hts : ∀ w ∈ lw_tbl, w.before args s = true) (hA : ∀ a : Nat, a < s.heap.size → ¬ A a) : ∃ q, gw_S A s ("SubstituteDesk", 283, "no lesson can be exchanged with it", 25) [110, 111, 32, 108, 101, 115, 115, 111, 110, 32, 99, 97, 110, 32, 98, 101, 32, 101, 120, 99, 104, 97, 110, 103, 101, 100, 32, 119, 105, 116, 104, 32, 105, 116] q :=
  gw_Sof (hts _ (gw_t6 80 rfl)) (by decide) (gw_n [false, true, true, true, false, false, true, true, false, true] h rfl) (gw_n [false, true, true, true, false, false, true, true, true, false] h rfl) (gw_n [false, true, true, true, false, false, true, true, true, true] h rfl) (gw_n [false, true, true, true, false, true, false, false, false, false] h rfl) (fun j hj => match j, hj with
    | 0, _ => (gw_n [false, true, true, true, false, true, false, false, false, true] h rfl)
    | 1, _ => (gw_n [false, true, true, true, false, true, false, false, true, false] h rfl)
    | 2, _ => (gw_n [false, true, true, true, false, true, false, false, true, true] h rfl)
    | 3, _ => (gw_n [false, true, true, true, false, true, false, true, false, false] h rfl)
    | 4, _ => (gw_n [false, true, true, true, false, true, false, true, false, true] h rfl)
    | 5, _ => (gw_n [false, true, true, true, false, true, false, true, true, false] h rfl)
    | 6, _ => (gw_n [false, true, true, true, false, true, false, true, true, true] h rfl)
    | 7, _ => (gw_n [false, true, true, true, false, true, true, false, false, false] h rfl)
    | 8, _ => (gw_n [false, true, true, true, false, true, true, false, false, true] h rfl)
    | 9, _ => (gw_n [false, true, true, true, false, true, true, false, true, false] h rfl)
    | 10, _ => (gw_n [false, true, true, true, false, true, true, false, true, true] h rfl)
    | 11, _ => (gw_n [false, true, true, true, false, true, true, true, false, false] h rfl)
    | 12, _ => (gw_n [false, true, true, true, false, true, true, true, false, true] h rfl)
    | 13, _ => (gw_n [false, true, true, true, false, true, true, true, true, false] h rfl)
    | 14, _ => (gw_n [false, true, true, true, false, true, true, true, true, true] h rfl)
    | 15, _ => (gw_n [false, true, true, true, true, false, false, false, false, false] h rfl)
    | 16, _ => (gw_n [false, true, true, true, true, false, false, false, false, true] h rfl)
    | 17, _ => (gw_n [false, true, true, true, true, false, false, false, true, false] h rfl)
    | 18, _ => (gw_n [false, true, true, true, true, false, false, false, true, true] h rfl)
    | 19, _ => (gw_n [false, true, true, true, true, false, false, true, false, false] h rfl)
    | 20, _ => (gw_n [false, true, true, true, true, false, false, true, false, true] h rfl)
    | 21, _ => (gw_n [false, true, true, true, true, false, false, true, true, false] h rfl)
    | 22, _ => (gw_n [false, true, true, true, true, false, false, true, true, true] h rfl)
    | 23, _ => (gw_n [false, true, true, true, true, false, true, false, false, false] h rfl)
    | 24, _ => (gw_n [false, true, true, true, true, false, true, false, false, true] h rfl)
    | 25, _ => (gw_n [false, true, true, true, true, false, true, false, true, false] h rfl)
    | 26, _ => (gw_n [false, true, true, true, true, false, true, false, true, true] h rfl)
    | 27, _ => (gw_n [false, true, true, true, true, false, true, true, false, false] h rfl)
    | 28, _ => (gw_n [false, true, true, true, true, false, true, true, false, true] h rfl)
    | 29, _ => (gw_n [false, true, true, true, true, false, true, true, true, false] h rfl)
    | 30, _ => (gw_n [false, true, true, true, true, false, true, true, true, true] h rfl)
    | 31, _ => (gw_n [false, true, true, true, true, true, false, false, false, false] h rfl)
    | 32, _ => (gw_n [false, true, true, true, true, true, false, false, false, true] h rfl)
    | 33, _ => (gw_n [false, true, true, true, true, true, false, false, true, false] h rfl)
    | m + 34, hj => absurd hj (Nat.not_lt.mpr (Nat.le_add_left 34 m))) hA
theorem gw_s26 (h : narrow_1.before args s = true) (hts : ∀ w ∈ lw_tbl, w.before args s = true) (hA : ∀ a : Nat, a < s.heap.size → ¬ A a) : ∃ q, gw_S A s ("SubstituteDesk", 307, "there is no such count", 26) [116, 104, 101, 114, 101, 32, 105, 115, 32, 110, 111, 32, 115, 117, 99, 104, 32, 99, 111, 117, 110, 116] q :=
  gw_Sof (hts _ (gw_t6 98 rfl)) (by decide) (gw_n [false, true, true, true, true, true, false, false, true, true] h rfl) (gw_n [false, true, true, true, true, true, false, true, false, false] h rfl) (gw_n [false, true, true, true, true, true, false, true, false, true] h rfl) (gw_n [false, true, true, true, true, true, false, true, true, false] h rfl) (fun j hj => match j, hj with
    | 0, _ => (gw_n [false, true, true, true, true, true, false, true, true, true] h rfl)
    | 1, _ => (gw_n [false, true, true, true, true, true, true, false, false, false] h rfl)
    | 2, _ => (gw_n [false, true, true, true, true, true, true, false, false, true] h rfl)
    | 3, _ => (gw_n [false, true, true, true, true, true, true, false, true, false] h rfl)
    | 4, _ => (gw_n [false, true, true, true, true, true, true, false, true, true] h rfl)
    | 5, _ => (gw_n [false, true, true, true, true, true, true, true, false, false] h rfl)
    | 6, _ => (gw_n [false, true, true, true, true, true, true, true, false, true] h rfl)
    | 7, _ => (gw_n [false, true, true, true, true, true, true, true, true, false] h rfl)
    | 8, _ => (gw_n [false, true, true, true, true, true, true, true, true, true, false] h rfl)
    | 9, _ => (gw_n [false, true, true, true, true, true, true, true, true, true, true] h rfl)
    | 10, _ => (gw_n [true, false, false, false, false, false, false, false, false, false] h rfl)
    | 11, _ => (gw_n [true, false, false, false, false, false, false, false, false, true] h rfl)
    | 12, _ => (gw_n [true, false, false, false, false, false, false, false, true, false] h rfl)
    | 13, _ => (gw_n [true, false, false, false, false, false, false, false, true, true] h rfl)
    | 14, _ => (gw_n [true, false, false, false, false, false, false, true, false, false] h rfl)
    | 15, _ => (gw_n [true, false, false, false, false, false, false, true, false, true] h rfl)
    | 16, _ => (gw_n [true, false, false, false, false, false, false, true, true, false] h rfl)
    | 17, _ => (gw_n [true, false, false, false, false, false, false, true, true, true] h rfl)
    | 18, _ => (gw_n [true, false, false, false, false, false, true, false, false, false] h rfl)
    | 19, _ => (gw_n [true, false, false, false, false, false, true, false, false, true] h rfl)
    | 20, _ => (gw_n [true, false, false, false, false, false, true, false, true, false] h rfl)
    | 21, _ => (gw_n [true, false, false, false, false, false, true, false, true, true] h rfl)
    | m + 22, hj => absurd hj (Nat.not_lt.mpr (Nat.le_add_left 22 m))) hA
theorem gw_s27 (h : narrow_1.before args s = true) (hts : ∀ w ∈ lw_tbl, w.before args s = true) (hA : ∀ a : Nat, a < s.heap.size → ¬ A a) : ∃ q, gw_S A s ("SubstituteDesk", 330, "a lesson has no such property", 27) [97, 32, 108, 101, 115, 115, 111, 110, 32, 104, 97, 115, 32, 110, 111, 32, 115, 117, 99, 104, 32, 112, 114, 111, 112, 101, 114, 116, 121] q :=
  gw_Sof (hts _ (gw_t6 108 rfl)) (by decide) (gw_n [true, false, false, false, false, false, true, true, false, false] h rfl) (gw_n [true, false, false, false, false, false, true, true, false, true] h rfl) (gw_n [true, false, false, false, false, false, true, true, true, false] h rfl) (gw_n [true, false, false, false, false, false, true, true, true, true] h rfl) (fun j hj => match j, hj with
    | 0, _ => (gw_n [true, false, false, false, false, true, false, false, false, false] h rfl)
    | 1, _ => (gw_n [true, false, false, false, false, true, false, false, false, true] h rfl)
    | 2, _ => (gw_n [true, false, false, false, false, true, false, false, true, false] h rfl)
    | 3, _ => (gw_n [true, false, false, false, false, true, false, false, true, true] h rfl)
    | 4, _ => (gw_n [true, false, false, false, false, true, false, true, false, false] h rfl)
    | 5, _ => (gw_n [true, false, false, false, false, true, false, true, false, true] h rfl)
    | 6, _ => (gw_n [true, false, false, false, false, true, false, true, true, false] h rfl)
    | 7, _ => (gw_n [true, false, false, false, false, true, false, true, true, true] h rfl)
    | 8, _ => (gw_n [true, false, false, false, false, true, true, false, false, false] h rfl)
    | 9, _ => (gw_n [true, false, false, false, false, true, true, false, false, true] h rfl)
    | 10, _ => (gw_n [true, false, false, false, false, true, true, false, true, false] h rfl)
    | 11, _ => (gw_n [true, false, false, false, false, true, true, false, true, true] h rfl)
    | 12, _ => (gw_n [true, false, false, false, false, true, true, true, false, false] h rfl)
    | 13, _ => (gw_n [true, false, false, false, false, true, true, true, false, true] h rfl)
    | 14, _ => (gw_n [true, false, false, false, false, true, true, true, true, false] h rfl)
    | 15, _ => (gw_n [true, false, false, false, false, true, true, true, true, true] h rfl)
    | 16, _ => (gw_n [true, false, false, false, true, false, false, false, false, false] h rfl)
    | 17, _ => (gw_n [true, false, false, false, true, false, false, false, false, true] h rfl)
    | 18, _ => (gw_n [true, false, false, false, true, false, false, false, true, false] h rfl)
    | 19, _ => (gw_n [true, false, false, false, true, false, false, false, true, true] h rfl)
    | 20, _ => (gw_n [true, false, false, false, true, false, false, true, false, false] h rfl)
    | 21, _ => (gw_n [true, false, false, false, true, false, false, true, false, true] h rfl)
    | 22, _ => (gw_n [true, false, false, false, true, false, false, true, true, false] h rfl)
    | 23, _ => (gw_n [true, false, false, false, true, false, false, true, true, true] h rfl)
    | 24, _ => (gw_n [true, false, false, false, true, false, true, false, false, false] h rfl)
    | 25, _ => (gw_n [true, false, false, false, true, false, true, false, false, true] h rfl)
    | 26, _ => (gw_n [true, false, false, false, true, false, true, false, true, false] h rfl)
    | 27, _ => (gw_n [true, false, false, false, true, false, true, false, true, true] h rfl)
    | 28, _ => (gw_n [true, false, false, false, true, false, true, true, false, false] h rfl)
    | m + 29, hj => absurd hj (Nat.not_lt.mpr (Nat.le_add_left 29 m))) hA
theorem gw_s28 (h : narrow_1.before args s = true) (hts : ∀ w ∈ lw_tbl, w.before args s = true) (hA : ∀ a : Nat, a < s.heap.size → ¬ A a) : ∃ q, gw_S A s ("SubstituteDesk", 348, "a teacher has no such property", 28) [97, 32, 116, 101, 97, 99, 104, 101, 114, 32, 104, 97, 115, 32, 110, 111, 32, 115, 117, 99, 104, 32, 112, 114, 111, 112, 101, 114, 116, 121] q :=
  gw_Sof (hts _ (gw_t6 121 rfl)) (by decide) (gw_n [true, false, false, false, true, false, true, true, false, true] h rfl) (gw_n [true, false, false, false, true, false, true, true, true, false] h rfl) (gw_n [true, false, false, false, true, false, true, true, true, true] h rfl) (gw_n [true, false, false, false, true, true, false, false, false, false] h rfl) (fun j hj => match j, hj with
    | 0, _ => (gw_n [true, false, false, false, true, true, false, false, false, true] h rfl)
    | 1, _ => (gw_n [true, false, false, false, true, true, false, false, true, false] h rfl)
    | 2, _ => (gw_n [true, false, false, false, true, true, false, false, true, true] h rfl)
    | 3, _ => (gw_n [true, false, false, false, true, true, false, true, false, false] h rfl)
    | 4, _ => (gw_n [true, false, false, false, true, true, false, true, false, true] h rfl)
    | 5, _ => (gw_n [true, false, false, false, true, true, false, true, true, false] h rfl)
    | 6, _ => (gw_n [true, false, false, false, true, true, false, true, true, true] h rfl)
    | 7, _ => (gw_n [true, false, false, false, true, true, true, false, false, false] h rfl)
    | 8, _ => (gw_n [true, false, false, false, true, true, true, false, false, true] h rfl)
    | 9, _ => (gw_n [true, false, false, false, true, true, true, false, true, false] h rfl)
    | 10, _ => (gw_n [true, false, false, false, true, true, true, false, true, true] h rfl)
    | 11, _ => (gw_n [true, false, false, false, true, true, true, true, false, false] h rfl)
    | 12, _ => (gw_n [true, false, false, false, true, true, true, true, false, true] h rfl)
    | 13, _ => (gw_n [true, false, false, false, true, true, true, true, true, false] h rfl)
    | 14, _ => (gw_n [true, false, false, false, true, true, true, true, true, true] h rfl)
    | 15, _ => (gw_n [true, false, false, true, false, false, false, false, false, false] h rfl)
    | 16, _ => (gw_n [true, false, false, true, false, false, false, false, false, true] h rfl)
    | 17, _ => (gw_n [true, false, false, true, false, false, false, false, true, false] h rfl)
    | 18, _ => (gw_n [true, false, false, true, false, false, false, false, true, true] h rfl)
    | 19, _ => (gw_n [true, false, false, true, false, false, false, true, false, false] h rfl)
    | 20, _ => (gw_n [true, false, false, true, false, false, false, true, false, true] h rfl)
    | 21, _ => (gw_n [true, false, false, true, false, false, false, true, true, false] h rfl)
    | 22, _ => (gw_n [true, false, false, true, false, false, false, true, true, true] h rfl)
    | 23, _ => (gw_n [true, false, false, true, false, false, true, false, false, false] h rfl)
    | 24, _ => (gw_n [true, false, false, true, false, false, true, false, false, true] h rfl)
    | 25, _ => (gw_n [true, false, false, true, false, false, true, false, true, false] h rfl)
    | 26, _ => (gw_n [true, false, false, true, false, false, true, false, true, true] h rfl)
    | 27, _ => (gw_n [true, false, false, true, false, false, true, true, false, false] h rfl)
    | 28, _ => (gw_n [true, false, false, true, false, false, true, true, false, true] h rfl)
    | 29, _ => (gw_n [true, false, false, true, false, false, true, true, true, false] h rfl)
    | m + 30, hj => absurd hj (Nat.not_lt.mpr (Nat.le_add_left 30 m))) hA
theorem gw_s29 (h : narrow_1.before args s = true) (hts : ∀ w ∈ lw_tbl, w.before args s = true) (hA : ∀ a : Nat, a < s.heap.size → ¬ A a) : ∃ q, gw_S A s ("SubstituteDesk", 353, "a room has no such property", 29) [97, 32, 114, 111, 111, 109, 32, 104, 97, 115, 32, 110, 111, 32, 115, 117, 99, 104, 32, 112, 114, 111, 112, 101, 114, 116, 121] q :=
  gw_Sof (hts _ (gw_t6 129 rfl)) (by decide) (gw_n [true, false, false, true, false, false, true, true, true, true] h rfl) (gw_n [true, false, false, true, false, true, false, false, false, false] h rfl) (gw_n [true, false, false, true, false, true, false, false, false, true] h rfl) (gw_n [true, false, false, true, false, true, false, false, true, false] h rfl) (fun j hj => match j, hj with
    | 0, _ => (gw_n [true, false, false, true, false, true, false, false, true, true] h rfl)
    | 1, _ => (gw_n [true, false, false, true, false, true, false, true, false, false] h rfl)
    | 2, _ => (gw_n [true, false, false, true, false, true, false, true, false, true] h rfl)
    | 3, _ => (gw_n [true, false, false, true, false, true, false, true, true, false] h rfl)
    | 4, _ => (gw_n [true, false, false, true, false, true, false, true, true, true] h rfl)
    | 5, _ => (gw_n [true, false, false, true, false, true, true, false, false, false] h rfl)
    | 6, _ => (gw_n [true, false, false, true, false, true, true, false, false, true] h rfl)
    | 7, _ => (gw_n [true, false, false, true, false, true, true, false, true, false] h rfl)
    | 8, _ => (gw_n [true, false, false, true, false, true, true, false, true, true] h rfl)
    | 9, _ => (gw_n [true, false, false, true, false, true, true, true, false, false] h rfl)
    | 10, _ => (gw_n [true, false, false, true, false, true, true, true, false, true] h rfl)
    | 11, _ => (gw_n [true, false, false, true, false, true, true, true, true, false] h rfl)
    | 12, _ => (gw_n [true, false, false, true, false, true, true, true, true, true] h rfl)
    | 13, _ => (gw_n [true, false, false, true, true, false, false, false, false, false] h rfl)
    | 14, _ => (gw_n [true, false, false, true, true, false, false, false, false, true] h rfl)
    | 15, _ => (gw_n [true, false, false, true, true, false, false, false, true, false] h rfl)
    | 16, _ => (gw_n [true, false, false, true, true, false, false, false, true, true] h rfl)
    | 17, _ => (gw_n [true, false, false, true, true, false, false, true, false, false] h rfl)
    | 18, _ => (gw_n [true, false, false, true, true, false, false, true, false, true] h rfl)
    | 19, _ => (gw_n [true, false, false, true, true, false, false, true, true, false] h rfl)
    | 20, _ => (gw_n [true, false, false, true, true, false, false, true, true, true] h rfl)
    | 21, _ => (gw_n [true, false, false, true, true, false, true, false, false, false] h rfl)
    | 22, _ => (gw_n [true, false, false, true, true, false, true, false, false, true] h rfl)
    | 23, _ => (gw_n [true, false, false, true, true, false, true, false, true, false] h rfl)
    | 24, _ => (gw_n [true, false, false, true, true, false, true, false, true, true] h rfl)
    | 25, _ => (gw_n [true, false, false, true, true, false, true, true, false, false] h rfl)
    | 26, _ => (gw_n [true, false, false, true, true, false, true, true, false, true] h rfl)
    | m + 27, hj => absurd hj (Nat.not_lt.mpr (Nat.le_add_left 27 m))) hA
theorem gw_s30 (h : narrow_1.before args s = true) (hts : ∀ w ∈ lw_tbl, w.before args s = true) (hA : ∀ a : Nat, a < s.heap.size → ¬ A a) : ∃ q, gw_S A s ("SubstituteDesk", 357, "there is no such subject", 30) [116, 104, 101, 114, 101, 32, 105, 115, 32, 110, 111, 32, 115, 117, 99, 104, 32, 115, 117, 98, 106, 101, 99, 116] q :=
  gw_Sof (hts _ (gw_t6 137 rfl)) (by decide) (gw_n [true, false, false, true, true, false, true, true, true, false] h rfl) (gw_n [true, false, false, true, true, false, true, true, true, true] h rfl) (gw_n [true, false, false, true, true, true, false, false, false, false] h rfl) (gw_n [true, false, false, true, true, true, false, false, false, true] h rfl) (fun j hj => match j, hj with
    | 0, _ => (gw_n [true, false, false, true, true, true, false, false, true, false] h rfl)
    | 1, _ => (gw_n [true, false, false, true, true, true, false, false, true, true] h rfl)
    | 2, _ => (gw_n [true, false, false, true, true, true, false, true, false, false] h rfl)
    | 3, _ => (gw_n [true, false, false, true, true, true, false, true, false, true] h rfl)
    | 4, _ => (gw_n [true, false, false, true, true, true, false, true, true, false] h rfl)
    | 5, _ => (gw_n [true, false, false, true, true, true, false, true, true, true] h rfl)
    | 6, _ => (gw_n [true, false, false, true, true, true, true, false, false, false] h rfl)
    | 7, _ => (gw_n [true, false, false, true, true, true, true, false, false, true] h rfl)
    | 8, _ => (gw_n [true, false, false, true, true, true, true, false, true, false] h rfl)
    | 9, _ => (gw_n [true, false, false, true, true, true, true, false, true, true] h rfl)
    | 10, _ => (gw_n [true, false, false, true, true, true, true, true, false, false] h rfl)
    | 11, _ => (gw_n [true, false, false, true, true, true, true, true, false, true] h rfl)
    | 12, _ => (gw_n [true, false, false, true, true, true, true, true, true, false] h rfl)
    | 13, _ => (gw_n [true, false, false, true, true, true, true, true, true, true] h rfl)
    | 14, _ => (gw_n [true, false, true, false, false, false, false, false, false, false] h rfl)
    | 15, _ => (gw_n [true, false, true, false, false, false, false, false, false, true] h rfl)
    | 16, _ => (gw_n [true, false, true, false, false, false, false, false, true, false] h rfl)
    | 17, _ => (gw_n [true, false, true, false, false, false, false, false, true, true] h rfl)
    | 18, _ => (gw_n [true, false, true, false, false, false, false, true, false, false] h rfl)
    | 19, _ => (gw_n [true, false, true, false, false, false, false, true, false, true] h rfl)
    | 20, _ => (gw_n [true, false, true, false, false, false, false, true, true, false] h rfl)
    | 21, _ => (gw_n [true, false, true, false, false, false, false, true, true, true] h rfl)
    | 22, _ => (gw_n [true, false, true, false, false, false, true, false, false, false] h rfl)
    | 23, _ => (gw_n [true, false, true, false, false, false, true, false, false, true] h rfl)
    | m + 24, hj => absurd hj (Nat.not_lt.mpr (Nat.le_add_left 24 m))) hA
theorem gw_s31 (h : narrow_1.before args s = true) (hts : ∀ w ∈ lw_tbl, w.before args s = true) (hA : ∀ a : Nat, a < s.heap.size → ¬ A a) : ∃ q, gw_S A s ("SubstituteDesk", 366, "a subject has no such property", 31) [97, 32, 115, 117, 98, 106, 101, 99, 116, 32, 104, 97, 115, 32, 110, 111, 32, 115, 117, 99, 104, 32, 112, 114, 111, 112, 101, 114, 116, 121] q :=
  gw_Sof (hts _ (gw_t6 139 rfl)) (by decide) (gw_n [true, false, true, false, false, false, true, false, true, false] h rfl) (gw_n [true, false, true, false, false, false, true, false, true, true] h rfl) (gw_n [true, false, true, false, false, false, true, true, false, false] h rfl) (gw_n [true, false, true, false, false, false, true, true, false, true] h rfl) (fun j hj => match j, hj with
    | 0, _ => (gw_n [true, false, true, false, false, false, true, true, true, false] h rfl)
    | 1, _ => (gw_n [true, false, true, false, false, false, true, true, true, true] h rfl)
    | 2, _ => (gw_n [true, false, true, false, false, true, false, false, false, false] h rfl)
    | 3, _ => (gw_n [true, false, true, false, false, true, false, false, false, true] h rfl)
    | 4, _ => (gw_n [true, false, true, false, false, true, false, false, true, false] h rfl)
    | 5, _ => (gw_n [true, false, true, false, false, true, false, false, true, true] h rfl)
    | 6, _ => (gw_n [true, false, true, false, false, true, false, true, false, false] h rfl)
    | 7, _ => (gw_n [true, false, true, false, false, true, false, true, false, true] h rfl)
    | 8, _ => (gw_n [true, false, true, false, false, true, false, true, true, false] h rfl)
    | 9, _ => (gw_n [true, false, true, false, false, true, false, true, true, true] h rfl)
    | 10, _ => (gw_n [true, false, true, false, false, true, true, false, false, false] h rfl)
    | 11, _ => (gw_n [true, false, true, false, false, true, true, false, false, true] h rfl)
    | 12, _ => (gw_n [true, false, true, false, false, true, true, false, true, false] h rfl)
    | 13, _ => (gw_n [true, false, true, false, false, true, true, false, true, true] h rfl)
    | 14, _ => (gw_n [true, false, true, false, false, true, true, true, false, false] h rfl)
    | 15, _ => (gw_n [true, false, true, false, false, true, true, true, false, true] h rfl)
    | 16, _ => (gw_n [true, false, true, false, false, true, true, true, true, false] h rfl)
    | 17, _ => (gw_n [true, false, true, false, false, true, true, true, true, true] h rfl)
    | 18, _ => (gw_n [true, false, true, false, true, false, false, false, false, false] h rfl)
    | 19, _ => (gw_n [true, false, true, false, true, false, false, false, false, true] h rfl)
    | 20, _ => (gw_n [true, false, true, false, true, false, false, false, true, false] h rfl)
    | 21, _ => (gw_n [true, false, true, false, true, false, false, false, true, true] h rfl)
    | 22, _ => (gw_n [true, false, true, false, true, false, false, true, false, false] h rfl)
    | 23, _ => (gw_n [true, false, true, false, true, false, false, true, false, true] h rfl)
    | 24, _ => (gw_n [true, false, true, false, true, false, false, true, true, false] h rfl)
    | 25, _ => (gw_n [true, false, true, false, true, false, false, true, true, true] h rfl)
    | 26, _ => (gw_n [true, false, true, false, true, false, true, false, false, false] h rfl)
    | 27, _ => (gw_n [true, false, true, false, true, false, true, false, false, true] h rfl)
    | 28, _ => (gw_n [true, false, true, false, true, false, true, false, true, false] h rfl)
    | 29, _ => (gw_n [true, false, true, false, true, false, true, false, true, true] h rfl)
    | m + 30, hj => absurd hj (Nat.not_lt.mpr (Nat.le_add_left 30 m))) hA
theorem gw_s32 (h : narrow_1.before args s = true) (hts : ∀ w ∈ lw_tbl, w.before args s = true) (hA : ∀ a : Nat, a < s.heap.size → ¬ A a) : ∃ q, gw_S A s ("SubstituteDesk", 444, "there is no such class", 32) [116, 104, 101, 114, 101, 32, 105, 115, 32, 110, 111, 32, 115, 117, 99, 104, 32, 99, 108, 97, 115, 115] q :=
  gw_Sof (hts _ (gw_t6 151 rfl)) (by decide) (gw_n [true, false, true, false, true, false, true, true, false, false] h rfl) (gw_n [true, false, true, false, true, false, true, true, false, true] h rfl) (gw_n [true, false, true, false, true, false, true, true, true, false] h rfl) (gw_n [true, false, true, false, true, false, true, true, true, true] h rfl) (fun j hj => match j, hj with
    | 0, _ => (gw_n [true, false, true, false, true, true, false, false, false, false] h rfl)
    | 1, _ => (gw_n [true, false, true, false, true, true, false, false, false, true] h rfl)
    | 2, _ => (gw_n [true, false, true, false, true, true, false, false, true, false] h rfl)
    | 3, _ => (gw_n [true, false, true, false, true, true, false, false, true, true] h rfl)
    | 4, _ => (gw_n [true, false, true, false, true, true, false, true, false, false] h rfl)
    | 5, _ => (gw_n [true, false, true, false, true, true, false, true, false, true] h rfl)
    | 6, _ => (gw_n [true, false, true, false, true, true, false, true, true, false] h rfl)
    | 7, _ => (gw_n [true, false, true, false, true, true, false, true, true, true] h rfl)
    | 8, _ => (gw_n [true, false, true, false, true, true, true, false, false, false] h rfl)
    | 9, _ => (gw_n [true, false, true, false, true, true, true, false, false, true] h rfl)
    | 10, _ => (gw_n [true, false, true, false, true, true, true, false, true, false] h rfl)
    | 11, _ => (gw_n [true, false, true, false, true, true, true, false, true, true] h rfl)
    | 12, _ => (gw_n [true, false, true, false, true, true, true, true, false, false] h rfl)
    | 13, _ => (gw_n [true, false, true, false, true, true, true, true, false, true] h rfl)
    | 14, _ => (gw_n [true, false, true, false, true, true, true, true, true, false] h rfl)
    | 15, _ => (gw_n [true, false, true, false, true, true, true, true, true, true] h rfl)
    | 16, _ => (gw_n [true, false, true, true, false, false, false, false, false, false] h rfl)
    | 17, _ => (gw_n [true, false, true, true, false, false, false, false, false, true] h rfl)
    | 18, _ => (gw_n [true, false, true, true, false, false, false, false, true, false] h rfl)
    | 19, _ => (gw_n [true, false, true, true, false, false, false, false, true, true] h rfl)
    | 20, _ => (gw_n [true, false, true, true, false, false, false, true, false, false] h rfl)
    | 21, _ => (gw_n [true, false, true, true, false, false, false, true, false, true] h rfl)
    | m + 22, hj => absurd hj (Nat.not_lt.mpr (Nat.le_add_left 22 m))) hA
theorem gw_s33 (h : narrow_1.before args s = true) (hts : ∀ w ∈ lw_tbl, w.before args s = true) (hA : ∀ a : Nat, a < s.heap.size → ¬ A a) : ∃ q, gw_S A s ("SubstituteDesk", 378, "there is no such kind of rooms", 33) [116, 104, 101, 114, 101, 32, 105, 115, 32, 110, 111, 32, 115, 117, 99, 104, 32, 107, 105, 110, 100, 32, 111, 102, 32, 114, 111, 111, 109, 115] q :=
  gw_Sof (hts _ (gw_t6 182 rfl)) (by decide) (gw_n [true, false, true, true, false, false, false, true, true, false] h rfl) (gw_n [true, false, true, true, false, false, false, true, true, true] h rfl) (gw_n [true, false, true, true, false, false, true, false, false, false] h rfl) (gw_n [true, false, true, true, false, false, true, false, false, true] h rfl) (fun j hj => match j, hj with
    | 0, _ => (gw_n [true, false, true, true, false, false, true, false, true, false] h rfl)
    | 1, _ => (gw_n [true, false, true, true, false, false, true, false, true, true] h rfl)
    | 2, _ => (gw_n [true, false, true, true, false, false, true, true, false, false] h rfl)
    | 3, _ => (gw_n [true, false, true, true, false, false, true, true, false, true] h rfl)
    | 4, _ => (gw_n [true, false, true, true, false, false, true, true, true, false] h rfl)
    | 5, _ => (gw_n [true, false, true, true, false, false, true, true, true, true] h rfl)
    | 6, _ => (gw_n [true, false, true, true, false, true, false, false, false, false] h rfl)
    | 7, _ => (gw_n [true, false, true, true, false, true, false, false, false, true] h rfl)
    | 8, _ => (gw_n [true, false, true, true, false, true, false, false, true, false] h rfl)
    | 9, _ => (gw_n [true, false, true, true, false, true, false, false, true, true] h rfl)
    | 10, _ => (gw_n [true, false, true, true, false, true, false, true, false, false] h rfl)
    | 11, _ => (gw_n [true, false, true, true, false, true, false, true, false, true] h rfl)
    | 12, _ => (gw_n [true, false, true, true, false, true, false, true, true, false] h rfl)
    | 13, _ => (gw_n [true, false, true, true, false, true, false, true, true, true] h rfl)
    | 14, _ => (gw_n [true, false, true, true, false, true, true, false, false, false] h rfl)
    | 15, _ => (gw_n [true, false, true, true, false, true, true, false, false, true] h rfl)
    | 16, _ => (gw_n [true, false, true, true, false, true, true, false, true, false] h rfl)
    | 17, _ => (gw_n [true, false, true, true, false, true, true, false, true, true] h rfl)
    | 18, _ => (gw_n [true, false, true, true, false, true, true, true, false, false] h rfl)
    | 19, _ => (gw_n [true, false, true, true, false, true, true, true, false, true] h rfl)
    | 20, _ => (gw_n [true, false, true, true, false, true, true, true, true, false] h rfl)
    | 21, _ => (gw_n [true, false, true, true, false, true, true, true, true, true] h rfl)
    | 22, _ => (gw_n [true, false, true, true, true, false, false, false, false, false] h rfl)
    | 23, _ => (gw_n [true, false, true, true, true, false, false, false, false, true] h rfl)
    | 24, _ => (gw_n [true, false, true, true, true, false, false, false, true, false] h rfl)
    | 25, _ => (gw_n [true, false, true, true, true, false, false, false, true, true] h rfl)
    | 26, _ => (gw_n [true, false, true, true, true, false, false, true, false, false] h rfl)
    | 27, _ => (gw_n [true, false, true, true, true, false, false, true, false, true] h rfl)
    | 28, _ => (gw_n [true, false, true, true, true, false, false, true, true, false] h rfl)
    | 29, _ => (gw_n [true, false, true, true, true, false, false, true, true, true] h rfl)
    | m + 30, hj => absurd hj (Nat.not_lt.mpr (Nat.le_add_left 30 m))) hA
theorem gw_s34 (h : narrow_1.before args s = true) (hts : ∀ w ∈ lw_tbl, w.before args s = true) (hA : ∀ a : Nat, a < s.heap.size → ¬ A a) : ∃ q, gw_S A s ("SubstituteDesk", 383, "there is no such open lesson", 34) [116, 104, 101, 114, 101, 32, 105, 115, 32, 110, 111, 32, 115, 117, 99, 104, 32, 111, 112, 101, 110, 32, 108, 101, 115, 115, 111, 110] q :=
  gw_Sof (hts _ (gw_t6 191 rfl)) (by decide) (gw_n [true, false, true, true, true, false, true, false, false, false] h rfl) (gw_n [true, false, true, true, true, false, true, false, false, true] h rfl) (gw_n [true, false, true, true, true, false, true, false, true, false] h rfl) (gw_n [true, false, true, true, true, false, true, false, true, true] h rfl) (fun j hj => match j, hj with
    | 0, _ => (gw_n [true, false, true, true, true, false, true, true, false, false] h rfl)
    | 1, _ => (gw_n [true, false, true, true, true, false, true, true, false, true] h rfl)
    | 2, _ => (gw_n [true, false, true, true, true, false, true, true, true, false] h rfl)
    | 3, _ => (gw_n [true, false, true, true, true, false, true, true, true, true] h rfl)
    | 4, _ => (gw_n [true, false, true, true, true, true, false, false, false, false] h rfl)
    | 5, _ => (gw_n [true, false, true, true, true, true, false, false, false, true] h rfl)
    | 6, _ => (gw_n [true, false, true, true, true, true, false, false, true, false] h rfl)
    | 7, _ => (gw_n [true, false, true, true, true, true, false, false, true, true] h rfl)
    | 8, _ => (gw_n [true, false, true, true, true, true, false, true, false, false] h rfl)
    | 9, _ => (gw_n [true, false, true, true, true, true, false, true, false, true] h rfl)
    | 10, _ => (gw_n [true, false, true, true, true, true, false, true, true, false] h rfl)
    | 11, _ => (gw_n [true, false, true, true, true, true, false, true, true, true] h rfl)
    | 12, _ => (gw_n [true, false, true, true, true, true, true, false, false, false] h rfl)
    | 13, _ => (gw_n [true, false, true, true, true, true, true, false, false, true] h rfl)
    | 14, _ => (gw_n [true, false, true, true, true, true, true, false, true, false] h rfl)
    | 15, _ => (gw_n [true, false, true, true, true, true, true, false, true, true] h rfl)
    | 16, _ => (gw_n [true, false, true, true, true, true, true, true, false, false] h rfl)
    | 17, _ => (gw_n [true, false, true, true, true, true, true, true, false, true] h rfl)
    | 18, _ => (gw_n [true, false, true, true, true, true, true, true, true, false] h rfl)
    | 19, _ => (gw_n [true, false, true, true, true, true, true, true, true, true, false] h rfl)
    | 20, _ => (gw_n [true, false, true, true, true, true, true, true, true, true, true] h rfl)
    | 21, _ => (gw_n [true, true, false, false, false, false, false, false, false, false] h rfl)
    | 22, _ => (gw_n [true, true, false, false, false, false, false, false, false, true] h rfl)
    | 23, _ => (gw_n [true, true, false, false, false, false, false, false, true, false] h rfl)
    | 24, _ => (gw_n [true, true, false, false, false, false, false, false, true, true] h rfl)
    | 25, _ => (gw_n [true, true, false, false, false, false, false, true, false, false] h rfl)
    | 26, _ => (gw_n [true, true, false, false, false, false, false, true, false, true] h rfl)
    | 27, _ => (gw_n [true, true, false, false, false, false, false, true, true, false] h rfl)
    | m + 28, hj => absurd hj (Nat.not_lt.mpr (Nat.le_add_left 28 m))) hA
theorem gw_s35 (h : narrow_1.before args s = true) (hts : ∀ w ∈ lw_tbl, w.before args s = true) (hA : ∀ a : Nat, a < s.heap.size → ¬ A a) : ∃ q, gw_S A s ("SubstituteDesk", 385, "there is no such difference", 35) [116, 104, 101, 114, 101, 32, 105, 115, 32, 110, 111, 32, 115, 117, 99, 104, 32, 100, 105, 102, 102, 101, 114, 101, 110, 99, 101] q :=
  gw_Sof (hts _ (gw_t6 199 rfl)) (by decide) (gw_n [true, true, false, false, false, false, false, true, true, true] h rfl) (gw_n [true, true, false, false, false, false, true, false, false, false] h rfl) (gw_n [true, true, false, false, false, false, true, false, false, true] h rfl) (gw_n [true, true, false, false, false, false, true, false, true, false] h rfl) (fun j hj => match j, hj with
    | 0, _ => (gw_n [true, true, false, false, false, false, true, false, true, true] h rfl)
    | 1, _ => (gw_n [true, true, false, false, false, false, true, true, false, false] h rfl)
    | 2, _ => (gw_n [true, true, false, false, false, false, true, true, false, true] h rfl)
    | 3, _ => (gw_n [true, true, false, false, false, false, true, true, true, false] h rfl)
    | 4, _ => (gw_n [true, true, false, false, false, false, true, true, true, true] h rfl)
    | 5, _ => (gw_n [true, true, false, false, false, true, false, false, false, false] h rfl)
    | 6, _ => (gw_n [true, true, false, false, false, true, false, false, false, true] h rfl)
    | 7, _ => (gw_n [true, true, false, false, false, true, false, false, true, false] h rfl)
    | 8, _ => (gw_n [true, true, false, false, false, true, false, false, true, true] h rfl)
    | 9, _ => (gw_n [true, true, false, false, false, true, false, true, false, false] h rfl)
    | 10, _ => (gw_n [true, true, false, false, false, true, false, true, false, true] h rfl)
    | 11, _ => (gw_n [true, true, false, false, false, true, false, true, true, false] h rfl)
    | 12, _ => (gw_n [true, true, false, false, false, true, false, true, true, true] h rfl)
    | 13, _ => (gw_n [true, true, false, false, false, true, true, false, false, false] h rfl)
    | 14, _ => (gw_n [true, true, false, false, false, true, true, false, false, true] h rfl)
    | 15, _ => (gw_n [true, true, false, false, false, true, true, false, true, false] h rfl)
    | 16, _ => (gw_n [true, true, false, false, false, true, true, false, true, true] h rfl)
    | 17, _ => (gw_n [true, true, false, false, false, true, true, true, false, false] h rfl)
    | 18, _ => (gw_n [true, true, false, false, false, true, true, true, false, true] h rfl)
    | 19, _ => (gw_n [true, true, false, false, false, true, true, true, true, false] h rfl)
    | 20, _ => (gw_n [true, true, false, false, false, true, true, true, true, true] h rfl)
    | 21, _ => (gw_n [true, true, false, false, true, false, false, false, false, false] h rfl)
    | 22, _ => (gw_n [true, true, false, false, true, false, false, false, false, true] h rfl)
    | 23, _ => (gw_n [true, true, false, false, true, false, false, false, true, false] h rfl)
    | 24, _ => (gw_n [true, true, false, false, true, false, false, false, true, true] h rfl)
    | 25, _ => (gw_n [true, true, false, false, true, false, false, true, false, false] h rfl)
    | 26, _ => (gw_n [true, true, false, false, true, false, false, true, false, true] h rfl)
    | m + 27, hj => absurd hj (Nat.not_lt.mpr (Nat.le_add_left 27 m))) hA
theorem gw_s36 (h : narrow_1.before args s = true) (hts : ∀ w ∈ lw_tbl, w.before args s = true) (hA : ∀ a : Nat, a < s.heap.size → ¬ A a) : ∃ q, gw_S A s ("SubstituteDesk", 406, "the report has no such byte", 36) [116, 104, 101, 32, 114, 101, 112, 111, 114, 116, 32, 104, 97, 115, 32, 110, 111, 32, 115, 117, 99, 104, 32, 98, 121, 116, 101] q :=
  gw_Sof (hts _ (gw_t7 10 rfl)) (by decide) (gw_n [true, true, false, false, true, false, false, true, true, false] h rfl) (gw_n [true, true, false, false, true, false, false, true, true, true] h rfl) (gw_n [true, true, false, false, true, false, true, false, false, false] h rfl) (gw_n [true, true, false, false, true, false, true, false, false, true] h rfl) (fun j hj => match j, hj with
    | 0, _ => (gw_n [true, true, false, false, true, false, true, false, true, false] h rfl)
    | 1, _ => (gw_n [true, true, false, false, true, false, true, false, true, true] h rfl)
    | 2, _ => (gw_n [true, true, false, false, true, false, true, true, false, false] h rfl)
    | 3, _ => (gw_n [true, true, false, false, true, false, true, true, false, true] h rfl)
    | 4, _ => (gw_n [true, true, false, false, true, false, true, true, true, false] h rfl)
    | 5, _ => (gw_n [true, true, false, false, true, false, true, true, true, true] h rfl)
    | 6, _ => (gw_n [true, true, false, false, true, true, false, false, false, false] h rfl)
    | 7, _ => (gw_n [true, true, false, false, true, true, false, false, false, true] h rfl)
    | 8, _ => (gw_n [true, true, false, false, true, true, false, false, true, false] h rfl)
    | 9, _ => (gw_n [true, true, false, false, true, true, false, false, true, true] h rfl)
    | 10, _ => (gw_n [true, true, false, false, true, true, false, true, false, false] h rfl)
    | 11, _ => (gw_n [true, true, false, false, true, true, false, true, false, true] h rfl)
    | 12, _ => (gw_n [true, true, false, false, true, true, false, true, true, false] h rfl)
    | 13, _ => (gw_n [true, true, false, false, true, true, false, true, true, true] h rfl)
    | 14, _ => (gw_n [true, true, false, false, true, true, true, false, false, false] h rfl)
    | 15, _ => (gw_n [true, true, false, false, true, true, true, false, false, true] h rfl)
    | 16, _ => (gw_n [true, true, false, false, true, true, true, false, true, false] h rfl)
    | 17, _ => (gw_n [true, true, false, false, true, true, true, false, true, true] h rfl)
    | 18, _ => (gw_n [true, true, false, false, true, true, true, true, false, false] h rfl)
    | 19, _ => (gw_n [true, true, false, false, true, true, true, true, false, true] h rfl)
    | 20, _ => (gw_n [true, true, false, false, true, true, true, true, true, false] h rfl)
    | 21, _ => (gw_n [true, true, false, false, true, true, true, true, true, true] h rfl)
    | 22, _ => (gw_n [true, true, false, true, false, false, false, false, false, false] h rfl)
    | 23, _ => (gw_n [true, true, false, true, false, false, false, false, false, true] h rfl)
    | 24, _ => (gw_n [true, true, false, true, false, false, false, false, true, false] h rfl)
    | 25, _ => (gw_n [true, true, false, true, false, false, false, false, true, true] h rfl)
    | 26, _ => (gw_n [true, true, false, true, false, false, false, true, false, false] h rfl)
    | m + 27, hj => absurd hj (Nat.not_lt.mpr (Nat.le_add_left 27 m))) hA
theorem gw_s37 (h : narrow_1.before args s = true) (hts : ∀ w ∈ lw_tbl, w.before args s = true) (hA : ∀ a : Nat, a < s.heap.size → ¬ A a) : ∃ q, gw_S A s ("SubstituteDesk", 414, "there is nothing to undo", 37) [116, 104, 101, 114, 101, 32, 105, 115, 32, 110, 111, 116, 104, 105, 110, 103, 32, 116, 111, 32, 117, 110, 100, 111] q :=
  gw_Sof (hts _ (gw_t7 18 rfl)) (by decide) (gw_n [true, true, false, true, false, false, false, true, false, true] h rfl) (gw_n [true, true, false, true, false, false, false, true, true, false] h rfl) (gw_n [true, true, false, true, false, false, false, true, true, true] h rfl) (gw_n [true, true, false, true, false, false, true, false, false, false] h rfl) (fun j hj => match j, hj with
    | 0, _ => (gw_n [true, true, false, true, false, false, true, false, false, true] h rfl)
    | 1, _ => (gw_n [true, true, false, true, false, false, true, false, true, false] h rfl)
    | 2, _ => (gw_n [true, true, false, true, false, false, true, false, true, true] h rfl)
    | 3, _ => (gw_n [true, true, false, true, false, false, true, true, false, false] h rfl)
    | 4, _ => (gw_n [true, true, false, true, false, false, true, true, false, true] h rfl)
    | 5, _ => (gw_n [true, true, false, true, false, false, true, true, true, false] h rfl)
    | 6, _ => (gw_n [true, true, false, true, false, false, true, true, true, true] h rfl)
    | 7, _ => (gw_n [true, true, false, true, false, true, false, false, false, false] h rfl)
    | 8, _ => (gw_n [true, true, false, true, false, true, false, false, false, true] h rfl)
    | 9, _ => (gw_n [true, true, false, true, false, true, false, false, true, false] h rfl)
    | 10, _ => (gw_n [true, true, false, true, false, true, false, false, true, true] h rfl)
    | 11, _ => (gw_n [true, true, false, true, false, true, false, true, false, false] h rfl)
    | 12, _ => (gw_n [true, true, false, true, false, true, false, true, false, true] h rfl)
    | 13, _ => (gw_n [true, true, false, true, false, true, false, true, true, false] h rfl)
    | 14, _ => (gw_n [true, true, false, true, false, true, false, true, true, true] h rfl)
    | 15, _ => (gw_n [true, true, false, true, false, true, true, false, false, false] h rfl)
    | 16, _ => (gw_n [true, true, false, true, false, true, true, false, false, true] h rfl)
    | 17, _ => (gw_n [true, true, false, true, false, true, true, false, true, false] h rfl)
    | 18, _ => (gw_n [true, true, false, true, false, true, true, false, true, true] h rfl)
    | 19, _ => (gw_n [true, true, false, true, false, true, true, true, false, false] h rfl)
    | 20, _ => (gw_n [true, true, false, true, false, true, true, true, false, true] h rfl)
    | 21, _ => (gw_n [true, true, false, true, false, true, true, true, true, false] h rfl)
    | 22, _ => (gw_n [true, true, false, true, false, true, true, true, true, true] h rfl)
    | 23, _ => (gw_n [true, true, false, true, true, false, false, false, false, false] h rfl)
    | m + 24, hj => absurd hj (Nat.not_lt.mpr (Nat.le_add_left 24 m))) hA
theorem gw_s38 (h : narrow_1.before args s = true) (hts : ∀ w ∈ lw_tbl, w.before args s = true) (hA : ∀ a : Nat, a < s.heap.size → ¬ A a) : ∃ q, gw_S A s ("SubstituteDeskModel", 288, "grid", 38) [103, 114, 105, 100] q :=
  gw_Sof (hts _ (gw_t8 116 rfl)) (by decide) (gw_n [true, true, false, true, true, false, false, false, false, true] h rfl) (gw_n [true, true, false, true, true, false, false, false, true, false] h rfl) (gw_n [true, true, false, true, true, false, false, false, true, true] h rfl) (gw_n [true, true, false, true, true, false, false, true, false, false] h rfl) (fun j hj => match j, hj with
    | 0, _ => (gw_n [true, true, false, true, true, false, false, true, false, true] h rfl)
    | 1, _ => (gw_n [true, true, false, true, true, false, false, true, true, false] h rfl)
    | 2, _ => (gw_n [true, true, false, true, true, false, false, true, true, true] h rfl)
    | 3, _ => (gw_n [true, true, false, true, true, false, true, false, false, false] h rfl)
    | m + 4, hj => absurd hj (Nat.not_lt.mpr (Nat.le_add_left 4 m))) hA
theorem gw_s39 (h : narrow_1.before args s = true) (hts : ∀ w ∈ lw_tbl, w.before args s = true) (hA : ∀ a : Nat, a < s.heap.size → ¬ A a) : ∃ q, gw_S A s ("SubstituteDeskModel", 274, ";", 39) [59] q :=
  gw_Sof (hts _ (gw_t8 149 rfl)) (by decide) (gw_n [true, true, false, true, true, false, true, false, true, false] h rfl) (gw_n [true, true, false, true, true, false, true, false, true, true] h rfl) (gw_n [true, true, false, true, true, false, true, true, false, false] h rfl) (gw_n [true, true, false, true, true, false, true, true, false, true] h rfl) (fun j hj => match j, hj with
    | 0, _ => (gw_n [true, true, false, true, true, false, true, true, true, false] h rfl)
    | m + 1, hj => absurd hj (Nat.not_lt.mpr (Nat.le_add_left 1 m))) hA
theorem gw_s40 (h : narrow_1.before args s = true) (hts : ∀ w ∈ lw_tbl, w.before args s = true) (hA : ∀ a : Nat, a < s.heap.size → ¬ A a) : ∃ q, gw_S A s ("SubstituteDeskModel", 290, "subject", 40) [115, 117, 98, 106, 101, 99, 116] q :=
  gw_Sof (hts _ (gw_t8 150 rfl)) (by decide) (gw_n [true, true, false, true, true, false, true, true, true, true] h rfl) (gw_n [true, true, false, true, true, true, false, false, false, false] h rfl) (gw_n [true, true, false, true, true, true, false, false, false, true] h rfl) (gw_n [true, true, false, true, true, true, false, false, true, false] h rfl) (fun j hj => match j, hj with
    | 0, _ => (gw_n [true, true, false, true, true, true, false, false, true, true] h rfl)
    | 1, _ => (gw_n [true, true, false, true, true, true, false, true, false, false] h rfl)
    | 2, _ => (gw_n [true, true, false, true, true, true, false, true, false, true] h rfl)
    | 3, _ => (gw_n [true, true, false, true, true, true, false, true, true, false] h rfl)
    | 4, _ => (gw_n [true, true, false, true, true, true, false, true, true, true] h rfl)
    | 5, _ => (gw_n [true, true, false, true, true, true, true, false, false, false] h rfl)
    | 6, _ => (gw_n [true, true, false, true, true, true, true, false, false, true] h rfl)
    | m + 7, hj => absurd hj (Nat.not_lt.mpr (Nat.le_add_left 7 m))) hA
theorem gw_s41 (h : narrow_1.before args s = true) (hts : ∀ w ∈ lw_tbl, w.before args s = true) (hA : ∀ a : Nat, a < s.heap.size → ¬ A a) : ∃ q, gw_S A s ("SubstituteDeskModel", 280, "teacher", 41) [116, 101, 97, 99, 104, 101, 114] q :=
  gw_Sof (hts _ (gw_t8 163 rfl)) (by decide) (gw_n [true, true, false, true, true, true, true, false, true, true] h rfl) (gw_n [true, true, false, true, true, true, true, true, false, false] h rfl) (gw_n [true, true, false, true, true, true, true, true, false, true] h rfl) (gw_n [true, true, false, true, true, true, true, true, true, false] h rfl) (fun j hj => match j, hj with
    | 0, _ => (gw_n [true, true, false, true, true, true, true, true, true, true] h rfl)
    | 1, _ => (gw_n [true, true, true, false, false, false, false, false, false, false] h rfl)
    | 2, _ => (gw_n [true, true, true, false, false, false, false, false, false, true] h rfl)
    | 3, _ => (gw_n [true, true, true, false, false, false, false, false, true, false] h rfl)
    | 4, _ => (gw_n [true, true, true, false, false, false, false, false, true, true] h rfl)
    | 5, _ => (gw_n [true, true, true, false, false, false, false, true, false, false] h rfl)
    | 6, _ => (gw_n [true, true, true, false, false, false, false, true, false, true] h rfl)
    | m + 7, hj => absurd hj (Nat.not_lt.mpr (Nat.le_add_left 7 m))) hA
theorem gw_s42 (h : narrow_1.before args s = true) (hts : ∀ w ∈ lw_tbl, w.before args s = true) (hA : ∀ a : Nat, a < s.heap.size → ¬ A a) : ∃ q, gw_S A s ("SubstituteDeskModel", 299, "room", 42) [114, 111, 111, 109] q :=
  gw_Sof (hts _ (gw_t8 164 rfl)) (by decide) (gw_n [true, true, true, false, false, false, false, true, true, true] h rfl) (gw_n [true, true, true, false, false, false, true, false, false, false] h rfl) (gw_n [true, true, true, false, false, false, true, false, false, true] h rfl) (gw_n [true, true, true, false, false, false, true, false, true, false] h rfl) (fun j hj => match j, hj with
    | 0, _ => (gw_n [true, true, true, false, false, false, true, false, true, true] h rfl)
    | 1, _ => (gw_n [true, true, true, false, false, false, true, true, false, false] h rfl)
    | 2, _ => (gw_n [true, true, true, false, false, false, true, true, false, true] h rfl)
    | 3, _ => (gw_n [true, true, true, false, false, false, true, true, true, false] h rfl)
    | m + 4, hj => absurd hj (Nat.not_lt.mpr (Nat.le_add_left 4 m))) hA
theorem gw_s43 (h : narrow_1.before args s = true) (hts : ∀ w ∈ lw_tbl, w.before args s = true) (hA : ∀ a : Nat, a < s.heap.size → ¬ A a) : ∃ q, gw_S A s ("SubstituteDeskModel", 301, "classes", 43) [99, 108, 97, 115, 115, 101, 115] q :=
  gw_Sof (hts _ (gw_t8 165 rfl)) (by decide) (gw_n [true, true, true, false, false, true, false, false, false, true] h rfl) (gw_n [true, true, true, false, false, true, false, false, true, false] h rfl) (gw_n [true, true, true, false, false, true, false, false, true, true] h rfl) (gw_n [true, true, true, false, false, true, false, true, false, false] h rfl) (fun j hj => match j, hj with
    | 0, _ => (gw_n [true, true, true, false, false, true, false, true, false, true] h rfl)
    | 1, _ => (gw_n [true, true, true, false, false, true, false, true, true, false] h rfl)
    | 2, _ => (gw_n [true, true, true, false, false, true, false, true, true, true] h rfl)
    | 3, _ => (gw_n [true, true, true, false, false, true, true, false, false, false] h rfl)
    | 4, _ => (gw_n [true, true, true, false, false, true, true, false, false, true] h rfl)
    | 5, _ => (gw_n [true, true, true, false, false, true, true, false, true, false] h rfl)
    | 6, _ => (gw_n [true, true, true, false, false, true, true, false, true, true] h rfl)
    | m + 7, hj => absurd hj (Nat.not_lt.mpr (Nat.le_add_left 7 m))) hA
theorem gw_s44 (h : narrow_1.before args s = true) (hts : ∀ w ∈ lw_tbl, w.before args s = true) (hA : ∀ a : Nat, a < s.heap.size → ¬ A a) : ∃ q, gw_S A s ("SubstituteDeskModel", 303, "lesson", 44) [108, 101, 115, 115, 111, 110] q :=
  gw_Sof (hts _ (gw_t8 166 rfl)) (by decide) (gw_n [true, true, true, false, false, true, true, true, false, true] h rfl) (gw_n [true, true, true, false, false, true, true, true, true, false] h rfl) (gw_n [true, true, true, false, false, true, true, true, true, true] h rfl) (gw_n [true, true, true, false, true, false, false, false, false, false] h rfl) (fun j hj => match j, hj with
    | 0, _ => (gw_n [true, true, true, false, true, false, false, false, false, true] h rfl)
    | 1, _ => (gw_n [true, true, true, false, true, false, false, false, true, false] h rfl)
    | 2, _ => (gw_n [true, true, true, false, true, false, false, false, true, true] h rfl)
    | 3, _ => (gw_n [true, true, true, false, true, false, false, true, false, false] h rfl)
    | 4, _ => (gw_n [true, true, true, false, true, false, false, true, false, true] h rfl)
    | 5, _ => (gw_n [true, true, true, false, true, false, false, true, true, false] h rfl)
    | m + 6, hj => absurd hj (Nat.not_lt.mpr (Nat.le_add_left 6 m))) hA
theorem gw_s45 (h : narrow_1.before args s = true) (hts : ∀ w ∈ lw_tbl, w.before args s = true) (hA : ∀ a : Nat, a < s.heap.size → ¬ A a) : ∃ q, gw_S A s ("SubstituteDeskModel", 308, "absent", 45) [97, 98, 115, 101, 110, 116] q :=
  gw_Sof (hts _ (gw_t8 195 rfl)) (by decide) (gw_n [true, true, true, false, true, false, true, false, false, false] h rfl) (gw_n [true, true, true, false, true, false, true, false, false, true] h rfl) (gw_n [true, true, true, false, true, false, true, false, true, false] h rfl) (gw_n [true, true, true, false, true, false, true, false, true, true] h rfl) (fun j hj => match j, hj with
    | 0, _ => (gw_n [true, true, true, false, true, false, true, true, false, false] h rfl)
    | 1, _ => (gw_n [true, true, true, false, true, false, true, true, false, true] h rfl)
    | 2, _ => (gw_n [true, true, true, false, true, false, true, true, true, false] h rfl)
    | 3, _ => (gw_n [true, true, true, false, true, false, true, true, true, true] h rfl)
    | 4, _ => (gw_n [true, true, true, false, true, true, false, false, false, false] h rfl)
    | 5, _ => (gw_n [true, true, true, false, true, true, false, false, false, true] h rfl)
    | m + 6, hj => absurd hj (Nat.not_lt.mpr (Nat.le_add_left 6 m))) hA
theorem gw_s46 (h : narrow_1.before args s = true) (hts : ∀ w ∈ lw_tbl, w.before args s = true) (hA : ∀ a : Nat, a < s.heap.size → ¬ A a) : ∃ q, gw_S A s ("SubstituteDeskModel", 310, "present", 46) [112, 114, 101, 115, 101, 110, 116] q :=
  gw_Sof (hts _ (gw_t8 196 rfl)) (by decide) (gw_n [true, true, true, false, true, true, false, false, true, true] h rfl) (gw_n [true, true, true, false, true, true, false, true, false, false] h rfl) (gw_n [true, true, true, false, true, true, false, true, false, true] h rfl) (gw_n [true, true, true, false, true, true, false, true, true, false] h rfl) (fun j hj => match j, hj with
    | 0, _ => (gw_n [true, true, true, false, true, true, false, true, true, true] h rfl)
    | 1, _ => (gw_n [true, true, true, false, true, true, true, false, false, false] h rfl)
    | 2, _ => (gw_n [true, true, true, false, true, true, true, false, false, true] h rfl)
    | 3, _ => (gw_n [true, true, true, false, true, true, true, false, true, false] h rfl)
    | 4, _ => (gw_n [true, true, true, false, true, true, true, false, true, true] h rfl)
    | 5, _ => (gw_n [true, true, true, false, true, true, true, true, false, false] h rfl)
    | 6, _ => (gw_n [true, true, true, false, true, true, true, true, false, true] h rfl)
    | m + 7, hj => absurd hj (Nat.not_lt.mpr (Nat.le_add_left 7 m))) hA
theorem gw_s47 (h : narrow_1.before args s = true) (hts : ∀ w ∈ lw_tbl, w.before args s = true) (hA : ∀ a : Nat, a < s.heap.size → ¬ A a) : ∃ q, gw_S A s ("SubstituteDeskModel", 312, "cover", 47) [99, 111, 118, 101, 114] q :=
  gw_Sof (hts _ (gw_t8 197 rfl)) (by decide) (gw_n [true, true, true, false, true, true, true, true, true, true] h rfl) (gw_n [true, true, true, true, false, false, false, false, false, false] h rfl) (gw_n [true, true, true, true, false, false, false, false, false, true] h rfl) (gw_n [true, true, true, true, false, false, false, false, true, false] h rfl) (fun j hj => match j, hj with
    | 0, _ => (gw_n [true, true, true, true, false, false, false, false, true, true] h rfl)
    | 1, _ => (gw_n [true, true, true, true, false, false, false, true, false, false] h rfl)
    | 2, _ => (gw_n [true, true, true, true, false, false, false, true, false, true] h rfl)
    | 3, _ => (gw_n [true, true, true, true, false, false, false, true, true, false] h rfl)
    | 4, _ => (gw_n [true, true, true, true, false, false, false, true, true, true] h rfl)
    | m + 5, hj => absurd hj (Nat.not_lt.mpr (Nat.le_add_left 5 m))) hA
theorem gw_s48 (h : narrow_1.before args s = true) (hts : ∀ w ∈ lw_tbl, w.before args s = true) (hA : ∀ a : Nat, a < s.heap.size → ¬ A a) : ∃ q, gw_S A s ("SubstituteDeskModel", 314, "watch", 48) [119, 97, 116, 99, 104] q :=
  gw_Sof (hts _ (gw_t8 198 rfl)) (by decide) (gw_n [true, true, true, true, false, false, true, false, false, true] h rfl) (gw_n [true, true, true, true, false, false, true, false, true, false] h rfl) (gw_n [true, true, true, true, false, false, true, false, true, true] h rfl) (gw_n [true, true, true, true, false, false, true, true, false, false] h rfl) (fun j hj => match j, hj with
    | 0, _ => (gw_n [true, true, true, true, false, false, true, true, false, true] h rfl)
    | 1, _ => (gw_n [true, true, true, true, false, false, true, true, true, false] h rfl)
    | 2, _ => (gw_n [true, true, true, true, false, false, true, true, true, true] h rfl)
    | 3, _ => (gw_n [true, true, true, true, false, true, false, false, false, false] h rfl)
    | 4, _ => (gw_n [true, true, true, true, false, true, false, false, false, true] h rfl)
    | m + 5, hj => absurd hj (Nat.not_lt.mpr (Nat.le_add_left 5 m))) hA
theorem gw_s49 (h : narrow_1.before args s = true) (hts : ∀ w ∈ lw_tbl, w.before args s = true) (hA : ∀ a : Nat, a < s.heap.size → ¬ A a) : ∃ q, gw_S A s ("SubstituteDeskModel", 316, "repair", 49) [114, 101, 112, 97, 105, 114] q :=
  gw_Sof (hts _ (gw_t8 199 rfl)) (by decide) (gw_n [true, true, true, true, false, true, false, false, true, true] h rfl) (gw_n [true, true, true, true, false, true, false, true, false, false] h rfl) (gw_n [true, true, true, true, false, true, false, true, false, true] h rfl) (gw_n [true, true, true, true, false, true, false, true, true, false] h rfl) (fun j hj => match j, hj with
    | 0, _ => (gw_n [true, true, true, true, false, true, false, true, true, true] h rfl)
    | 1, _ => (gw_n [true, true, true, true, false, true, true, false, false, false] h rfl)
    | 2, _ => (gw_n [true, true, true, true, false, true, true, false, false, true] h rfl)
    | 3, _ => (gw_n [true, true, true, true, false, true, true, false, true, false] h rfl)
    | 4, _ => (gw_n [true, true, true, true, false, true, true, false, true, true] h rfl)
    | 5, _ => (gw_n [true, true, true, true, false, true, true, true, false, false] h rfl)
    | m + 6, hj => absurd hj (Nat.not_lt.mpr (Nat.le_add_left 6 m))) hA
theorem gw_s50 (h : narrow_1.before args s = true) (hts : ∀ w ∈ lw_tbl, w.before args s = true) (hA : ∀ a : Nat, a < s.heap.size → ¬ A a) : ∃ q, gw_S A s ("SubstituteDeskModel", 318, "all", 50) [97, 108, 108] q :=
  gw_Sof (hts _ (gw_t8 200 rfl)) (by decide) (gw_n [true, true, true, true, false, true, true, true, true, false] h rfl) (gw_n [true, true, true, true, false, true, true, true, true, true] h rfl) (gw_n [true, true, true, true, true, false, false, false, false, false] h rfl) (gw_n [true, true, true, true, true, false, false, false, false, true] h rfl) (fun j hj => match j, hj with
    | 0, _ => (gw_n [true, true, true, true, true, false, false, false, true, false] h rfl)
    | 1, _ => (gw_n [true, true, true, true, true, false, false, false, true, true] h rfl)
    | 2, _ => (gw_n [true, true, true, true, true, false, false, true, false, false] h rfl)
    | m + 3, hj => absurd hj (Nat.not_lt.mpr (Nat.le_add_left 3 m))) hA
theorem gw_s51 (h : narrow_1.before args s = true) (hts : ∀ w ∈ lw_tbl, w.before args s = true) (hA : ∀ a : Nat, a < s.heap.size → ¬ A a) : ∃ q, gw_S A s ("SubstituteDeskModel", 320, "swap", 51) [115, 119, 97, 112] q :=
  gw_Sof (hts _ (gw_t8 201 rfl)) (by decide) (gw_n [true, true, true, true, true, false, false, true, true, false] h rfl) (gw_n [true, true, true, true, true, false, false, true, true, true] h rfl) (gw_n [true, true, true, true, true, false, true, false, false, false] h rfl) (gw_n [true, true, true, true, true, false, true, false, false, true] h rfl) (fun j hj => match j, hj with
    | 0, _ => (gw_n [true, true, true, true, true, false, true, false, true, false] h rfl)
    | 1, _ => (gw_n [true, true, true, true, true, false, true, false, true, true] h rfl)
    | 2, _ => (gw_n [true, true, true, true, true, false, true, true, false, false] h rfl)
    | 3, _ => (gw_n [true, true, true, true, true, false, true, true, false, true] h rfl)
    | m + 4, hj => absurd hj (Nat.not_lt.mpr (Nat.le_add_left 4 m))) hA
theorem gw_s52 (h : narrow_1.before args s = true) (hts : ∀ w ∈ lw_tbl, w.before args s = true) (hA : ∀ a : Nat, a < s.heap.size → ¬ A a) : ∃ q, gw_S A s ("SubstituteDeskModel", 322, "move", 52) [109, 111, 118, 101] q :=
  gw_Sof (hts _ (gw_t8 202 rfl)) (by decide) (gw_n [true, true, true, true, true, false, true, true, true, true] h rfl) (gw_n [true, true, true, true, true, true, false, false, false, false] h rfl) (gw_n [true, true, true, true, true, true, false, false, false, true] h rfl) (gw_n [true, true, true, true, true, true, false, false, true, false] h rfl) (fun j hj => match j, hj with
    | 0, _ => (gw_n [true, true, true, true, true, true, false, false, true, true] h rfl)
    | 1, _ => (gw_n [true, true, true, true, true, true, false, true, false, false] h rfl)
    | 2, _ => (gw_n [true, true, true, true, true, true, false, true, false, true] h rfl)
    | 3, _ => (gw_n [true, true, true, true, true, true, false, true, true, false] h rfl)
    | m + 4, hj => absurd hj (Nat.not_lt.mpr (Nat.le_add_left 4 m))) hA
theorem gw_s53 (h : narrow_1.before args s = true) (hts : ∀ w ∈ lw_tbl, w.before args s = true) (hA : ∀ a : Nat, a < s.heap.size → ¬ A a) : ∃ q, gw_S A s ("SubstituteDeskModel", 324, "open", 53) [111, 112, 101, 110] q :=
  gw_Sof (hts _ (gw_t8 203 rfl)) (by decide) (gw_n [true, true, true, true, true, true, true, false, false, false] h rfl) (gw_n [true, true, true, true, true, true, true, false, false, true] h rfl) (gw_n [true, true, true, true, true, true, true, false, true, false] h rfl) (gw_n [true, true, true, true, true, true, true, false, true, true] h rfl) (fun j hj => match j, hj with
    | 0, _ => (gw_n [true, true, true, true, true, true, true, true, false, false] h rfl)
    | 1, _ => (gw_n [true, true, true, true, true, true, true, true, false, true] h rfl)
    | 2, _ => (gw_n [true, true, true, true, true, true, true, true, true, false] h rfl)
    | 3, _ => (gw_n [true, true, true, true, true, true, true, true, true, true, false] h rfl)
    | m + 4, hj => absurd hj (Nat.not_lt.mpr (Nat.le_add_left 4 m))) hA
theorem gw_strs (h : narrow_1.before args s = true) (hts : ∀ w ∈ lw_tbl, w.before args s = true) (hA : ∀ a : Nat, a < s.heap.size → ¬ A a) : ∃ f : Nat → Nat × Nat, ∀ i : Nat, i < 54 → gw_S A s (gb_strs.getD i ("", 0, "", 0)) (ga_txs.getD i []) (f i) := by
  have h0 : ∀ i : Nat, ∃ q : Nat × Nat, i < 54 → gw_S A s (gb_strs.getD i ("", 0, "", 0)) (ga_txs.getD i []) q := fun i => match i with
    | 0 => (gw_s0 h hts hA).elim fun q hq => ⟨q, fun _ => hq⟩
    | 1 => (gw_s1 h hts hA).elim fun q hq => ⟨q, fun _ => hq⟩
    | 2 => (gw_s2 h hts hA).elim fun q hq => ⟨q, fun _ => hq⟩
    | 3 => (gw_s3 h hts hA).elim fun q hq => ⟨q, fun _ => hq⟩
    | 4 => (gw_s4 h hts hA).elim fun q hq => ⟨q, fun _ => hq⟩
    | 5 => (gw_s5 h hts hA).elim fun q hq => ⟨q, fun _ => hq⟩
    | 6 => (gw_s6 h hts hA).elim fun q hq => ⟨q, fun _ => hq⟩
    | 7 => (gw_s7 h hts hA).elim fun q hq => ⟨q, fun _ => hq⟩
    | 8 => (gw_s8 h hts hA).elim fun q hq => ⟨q, fun _ => hq⟩
    | 9 => (gw_s9 h hts hA).elim fun q hq => ⟨q, fun _ => hq⟩
    | 10 => (gw_s10 h hts hA).elim fun q hq => ⟨q, fun _ => hq⟩
    | 11 => (gw_s11 h hts hA).elim fun q hq => ⟨q, fun _ => hq⟩
    | 12 => (gw_s12 h hts hA).elim fun q hq => ⟨q, fun _ => hq⟩
    | 13 => (gw_s13 h hts hA).elim fun q hq => ⟨q, fun _ => hq⟩
    | 14 => (gw_s14 h hts hA).elim fun q hq => ⟨q, fun _ => hq⟩
    | 15 => (gw_s15 h hts hA).elim fun q hq => ⟨q, fun _ => hq⟩
    | 16 => (gw_s16 h hts hA).elim fun q hq => ⟨q, fun _ => hq⟩
    | 17 => (gw_s17 h hts hA).elim fun q hq => ⟨q, fun _ => hq⟩
    | 18 => (gw_s18 h hts hA).elim fun q hq => ⟨q, fun _ => hq⟩
    | 19 => (gw_s19 h hts hA).elim fun q hq => ⟨q, fun _ => hq⟩
    | 20 => (gw_s20 h hts hA).elim fun q hq => ⟨q, fun _ => hq⟩
    | 21 => (gw_s21 h hts hA).elim fun q hq => ⟨q, fun _ => hq⟩
    | 22 => (gw_s22 h hts hA).elim fun q hq => ⟨q, fun _ => hq⟩
    | 23 => (gw_s23 h hts hA).elim fun q hq => ⟨q, fun _ => hq⟩
    | 24 => (gw_s24 h hts hA).elim fun q hq => ⟨q, fun _ => hq⟩
    | 25 => (gw_s25 h hts hA).elim fun q hq => ⟨q, fun _ => hq⟩
    | 26 => (gw_s26 h hts hA).elim fun q hq => ⟨q, fun _ => hq⟩
    | 27 => (gw_s27 h hts hA).elim fun q hq => ⟨q, fun _ => hq⟩
    | 28 => (gw_s28 h hts hA).elim fun q hq => ⟨q, fun _ => hq⟩
    | 29 => (gw_s29 h hts hA).elim fun q hq => ⟨q, fun _ => hq⟩
    | 30 => (gw_s30 h hts hA).elim fun q hq => ⟨q, fun _ => hq⟩
    | 31 => (gw_s31 h hts hA).elim fun q hq => ⟨q, fun _ => hq⟩
    | 32 => (gw_s32 h hts hA).elim fun q hq => ⟨q, fun _ => hq⟩
    | 33 => (gw_s33 h hts hA).elim fun q hq => ⟨q, fun _ => hq⟩
    | 34 => (gw_s34 h hts hA).elim fun q hq => ⟨q, fun _ => hq⟩
    | 35 => (gw_s35 h hts hA).elim fun q hq => ⟨q, fun _ => hq⟩
    | 36 => (gw_s36 h hts hA).elim fun q hq => ⟨q, fun _ => hq⟩
    | 37 => (gw_s37 h hts hA).elim fun q hq => ⟨q, fun _ => hq⟩
    | 38 => (gw_s38 h hts hA).elim fun q hq => ⟨q, fun _ => hq⟩
    | 39 => (gw_s39 h hts hA).elim fun q hq => ⟨q, fun _ => hq⟩
    | 40 => (gw_s40 h hts hA).elim fun q hq => ⟨q, fun _ => hq⟩
    | 41 => (gw_s41 h hts hA).elim fun q hq => ⟨q, fun _ => hq⟩
    | 42 => (gw_s42 h hts hA).elim fun q hq => ⟨q, fun _ => hq⟩
    | 43 => (gw_s43 h hts hA).elim fun q hq => ⟨q, fun _ => hq⟩
    | 44 => (gw_s44 h hts hA).elim fun q hq => ⟨q, fun _ => hq⟩
    | 45 => (gw_s45 h hts hA).elim fun q hq => ⟨q, fun _ => hq⟩
    | 46 => (gw_s46 h hts hA).elim fun q hq => ⟨q, fun _ => hq⟩
    | 47 => (gw_s47 h hts hA).elim fun q hq => ⟨q, fun _ => hq⟩
    | 48 => (gw_s48 h hts hA).elim fun q hq => ⟨q, fun _ => hq⟩
    | 49 => (gw_s49 h hts hA).elim fun q hq => ⟨q, fun _ => hq⟩
    | 50 => (gw_s50 h hts hA).elim fun q hq => ⟨q, fun _ => hq⟩
    | 51 => (gw_s51 h hts hA).elim fun q hq => ⟨q, fun _ => hq⟩
    | 52 => (gw_s52 h hts hA).elim fun q hq => ⟨q, fun _ => hq⟩
    | 53 => (gw_s53 h hts hA).elim fun q hq => ⟨q, fun _ => hq⟩
    | m + 54 => ⟨(0, 0), fun h9 => absurd h9 (Nat.not_lt.mpr (Nat.le_add_left 54 m))⟩
  exact Classical.axiomOfChoice h0
theorem gw_nest (hts : ∀ w ∈ lw_tbl, w.before args s = true) : ∀ q ∈ gb_nest, va_Nw (.methodLinkNest q.1 q.2.1 q.2.2.1 q.2.2.2) s := List.forall_mem_cons.mpr ⟨va_Nw.of rfl (hts _ (gw_t1 36 rfl)), List.forall_mem_cons.mpr ⟨va_Nw.of rfl (hts _ (gw_t2 5 rfl)), List.forall_mem_cons.mpr ⟨va_Nw.of rfl (hts _ (gw_t2 97 rfl)), List.forall_mem_cons.mpr ⟨va_Nw.of rfl (hts _ (gw_t2 146 rfl)), List.forall_mem_cons.mpr ⟨va_Nw.of rfl (hts _ (gw_t3 132 rfl)), List.forall_mem_cons.mpr ⟨va_Nw.of rfl (hts _ (gw_t3 175 rfl)), List.forall_mem_cons.mpr ⟨va_Nw.of rfl (hts _ (gw_t4 54 rfl)), fun _ h => nomatch h⟩⟩⟩⟩⟩⟩⟩
theorem gw_oth (hts : ∀ w ∈ lw_tbl, w.before args s = true) : ∀ w ∈ gb_oth, va_Nw w s := List.forall_mem_cons.mpr ⟨va_Nw.of rfl (hts _ (gw_t5 13 rfl)), List.forall_mem_cons.mpr ⟨va_Nw.of rfl (hts _ (gw_t5 94 rfl)), List.forall_mem_cons.mpr ⟨va_Nw.of rfl (hts _ (gw_t5 123 rfl)), List.forall_mem_cons.mpr ⟨va_Nw.of rfl (hts _ (gw_t6 52 rfl)), List.forall_mem_cons.mpr ⟨va_Nw.of rfl (hts _ (gw_t5 15 rfl)), List.forall_mem_cons.mpr ⟨va_Nw.of rfl (hts _ (gw_t5 17 rfl)), List.forall_mem_cons.mpr ⟨va_Nw.of rfl (hts _ (gw_t5 19 rfl)), fun _ h => nomatch h⟩⟩⟩⟩⟩⟩⟩
theorem gw_nc (h : narrow_1.before args s = true) : ∀ q ∈ gb_nc, va_Nc q.1 q.2 s := List.forall_mem_cons.mpr ⟨va_Nc.of (gw_n [false, false, false, false, false, true, false, true, true, false] h rfl), List.forall_mem_cons.mpr ⟨va_Nc.of (gw_n [false, false, false, false, true, true, false, true, true, true] h rfl), List.forall_mem_cons.mpr ⟨va_Nc.of (gw_n [false, false, false, true, false, false, false, true, true, true] h rfl), List.forall_mem_cons.mpr ⟨va_Nc.of (gw_n [false, false, false, false, true, false, false, true, true, false] h rfl), List.forall_mem_cons.mpr ⟨va_Nc.of (gw_n [false, false, false, false, true, true, false, true, true, false] h rfl), List.forall_mem_cons.mpr ⟨va_Nc.of (gw_n [false, false, false, true, false, false, false, true, true, false] h rfl), List.forall_mem_cons.mpr ⟨va_Nc.of (gw_n [false, false, false, false, true, false, false, true, true, true] h rfl), List.forall_mem_cons.mpr ⟨va_Nc.of (gw_n [false, false, false, false, false, true, false, true, true, true] h rfl), List.forall_mem_cons.mpr ⟨va_Nc.of (gw_n [false, false, false, true, false, false, true, false, false, false] h rfl), List.forall_mem_cons.mpr ⟨va_Nc.of (gw_n [false, false, false, false, true, false, true, false, false, false] h rfl), List.forall_mem_cons.mpr ⟨va_Nc.of (gw_n [false, false, false, false, false, true, true, false, false, false] h rfl), List.forall_mem_cons.mpr ⟨va_Nc.of (gw_n [false, false, false, false, true, true, true, false, false, false] h rfl), fun _ h => nomatch h⟩⟩⟩⟩⟩⟩⟩⟩⟩⟩⟩⟩
theorem gw_zU (h : narrow_1.before args s = true) (hts : ∀ w ∈ lw_tbl, w.before args s = true) (hA : ∀ a : Nat, a < s.heap.size → ¬ A a) : vx_Zq Bundle.tN "UNASSIGNED_STACK" Bundle.steD A s s.heap := vx_Zqof (args := args) (hts _ (gw_t5 38 rfl)) (hts _ (gw_t1 14 rfl)) (gw_n [false, false, false, false, false, false, false, true, true, true] h rfl) hA
theorem gw_zS (h : narrow_1.before args s = true) (hts : ∀ w ∈ lw_tbl, w.before args s = true) (hA : ∀ a : Nat, a < s.heap.size → ¬ A a) : vx_Zq Bundle.tN "SUPPRESSED_SENTINEL" Bundle.listD A s s.heap := vx_Zqof (args := args) (hts _ (gw_t5 40 rfl)) (hts _ (gw_t1 14 rfl)) (gw_n [false, false, false, false, false, false, true, false, false, false] h rfl) hA
theorem gw_zC (h : narrow_1.before args s = true) (hts : ∀ w ∈ lw_tbl, w.before args s = true) (hA : ∀ a : Nat, a < s.heap.size → ¬ A a) : va_Z "java/lang/String" "COMPACT_STRINGS" "Z" (.int 1) A s s.heap := va_Zof (args := args) (hts _ (gw_t3 57 rfl)) (hts _ (gw_t1 20 rfl)) (va_eqi (gw_n [false, false, false, false, false, false, false, false, true, false] h rfl)) hA
theorem gw_zP (h : narrow_1.before args s = true) (hts : ∀ w ∈ lw_tbl, w.before args s = true) (hA : ∀ a : Nat, a < s.heap.size → ¬ A a) : va_Zq "jdk/internal/util/Preconditions" "SIOOBE_FORMATTER" "Ljava/util/function/BiFunction;" A s s.heap := va_Zqof (args := args) (hts _ (gw_t3 73 rfl)) (hts _ (gw_t1 22 rfl)) (gw_n [false, false, false, false, false, false, false, false, true, true] h rfl) hA
theorem gw_arr {ty : FieldType} (hn : ∀ C, ty ≠ .object C) (h : (Cond.arrayClass ty).before args s = true) : ∃ cA : ClassId, ArrOfT s cA ty ∧ va_RA s cA ty := by
  obtain ⟨cA, kA, comp, h1, h2, h3⟩ := Cond.arrayClass_spec h
  refine ⟨cA, fun n z => ⟨fun k h0 => (by cases h0), kA, h2, comp, h3⟩, ?_⟩
  cases ty <;> first | exact h1 | exact absurd rfl (hn _)
theorem gw_goods (hts : ∀ w ∈ lw_tbl, w.before args s = true) : ∀ w ∈ gb_good, w.before args s = true := fun w h => hts w (List.mem_filter.mp h).1
def gw_D0 (_ : State) : ClassId × (Nat → Nat) := (0, fun _ => 0)
theorem gw_D (hts : ∀ w ∈ lw_tbl, w.before args s = true) : ∃ D : va_G, ∀ (c : Nat) (q : vw_C), vwCl[c]? = some q → u_Kn s q.1 q.2.1 q.2.2 (D.1 c) (D.2 c) := by
  have h0 : ∀ c : Nat, ∃ z : ClassId × (Nat → Nat), ∀ q : vw_C, vwCl[c]? = some q → u_Kn s q.1 q.2.1 q.2.2 z.1 z.2 := by
    intro c
    by_cases hc : c < 13
    · obtain ⟨C, T, N, ty, hv, h2, h3, h4, h5, h6, h7, h8, h9⟩ := gk_wd.1 c hc
      obtain ⟨cC, iS, hk⟩ := u_known (ws := gb_good) (s := s) (args := args) (gw_goods hts) h2 (gw_goods hts _ h8)
      refine ⟨(cC, iS), fun q hq => ?_⟩
      have e := Option.some.inj (hv.symm.trans hq)
      subst e
      exact hk
    · refine ⟨((gw_D0 s).1, (gw_D0 s).2), fun q hq => absurd (List.getElem?_eq_some_iff.mp hq).1 hc⟩
  obtain ⟨f, hf⟩ := Classical.axiomOfChoice h0
  exact ⟨(fun c => (f c).1, fun c => (f c).2), hf⟩
theorem gw_K (hts : ∀ w ∈ lw_tbl, w.before args s = true) : ∃ (D : va_G) (cA : Nat → ClassId), va_K D vwCl (ga_tys cA) s := by
  obtain ⟨D, hD⟩ := gw_D hts
  obtain ⟨c0, a0, b0⟩ := gw_arr (ty := .int) (fun C h => nomatch h) (gw_goods hts _ gk_wd.2.2.2.1)
  obtain ⟨c1, a1, b1⟩ := gw_arr (ty := .byte) (fun C h => nomatch h) (gw_goods hts _ gk_wd.2.2.2.2.1)
  obtain ⟨c2, a2, b2⟩ := gw_arr (ty := .long) (fun C h => nomatch h) (gw_goods hts _ gk_wd.2.2.2.2.2)
  refine ⟨D, fun k => if k = 0 then c0 else if k = 1 then c1 else c2, hD, fun k q hq => ?_⟩
  match k, hq with
  | 0, hq => cases hq; exact ⟨a0, b0⟩
  | 1, hq => cases hq; exact ⟨a1, b1⟩
  | 2, hq => cases hq; exact ⟨a2, b2⟩
  | m + 3, hq => cases hq
/-- what never changes, at the start -/
theorem gw_E {b : Nat} (h : narrow_1.before args s = true) (hts : ∀ w ∈ lw_tbl, w.before args s = true) : ∃ (D : va_G) (cA : Nat → ClassId) (ad adV : Nat → Nat), gb_E D cA ad (fun q : Nat => s.heap.size ≤ q) adV s s.heap ∧ ad 999 = b ∧ ad 0 = s.heap.size := by
  have hA : ∀ a : Nat, a < s.heap.size → ¬ (fun q : Nat => s.heap.size ≤ q) a := fun a h => Nat.not_le.mpr h
  obtain ⟨D, cA, hK⟩ := gw_K (s := s) hts
  obtain ⟨f, hf⟩ := gw_strs (A := fun q : Nat => s.heap.size ≤ q) h hts hA
  obtain ⟨ad, ead⟩ : ∃ ad : Nat → Nat, ad = fun k => if k < 999 then s.heap.size + k else if k = 999 then b else (f (k - 1000)).1 := ⟨_, rfl⟩
  have had1 : ∀ i, ad (1000 + i) = (f i).1 := fun i => by rw [ead]; simp only []; rw [if_neg (by omega), if_neg (by omega), show 1000 + i - 1000 = i by omega]
  have had2 : ∀ k, k < 999 → ad k = s.heap.size + k := fun k hk => by rw [ead]; simp only []; rw [if_pos hk]
  have hst : ∀ q ∈ gb_strs, vk_R q.1 q.2.1 q.2.2.1 (f q.2.2.2).1 s := List.forall_mem_cons.mpr ⟨(hf 0 (by decide)).1, List.forall_mem_cons.mpr ⟨(hf 1 (by decide)).1, List.forall_mem_cons.mpr ⟨(hf 2 (by decide)).1, List.forall_mem_cons.mpr ⟨(hf 3 (by decide)).1, List.forall_mem_cons.mpr ⟨(hf 4 (by decide)).1, List.forall_mem_cons.mpr ⟨(hf 5 (by decide)).1, List.forall_mem_cons.mpr ⟨(hf 6 (by decide)).1, List.forall_mem_cons.mpr ⟨(hf 7 (by decide)).1, List.forall_mem_cons.mpr ⟨(hf 8 (by decide)).1, List.forall_mem_cons.mpr ⟨(hf 9 (by decide)).1, List.forall_mem_cons.mpr ⟨(hf 10 (by decide)).1, List.forall_mem_cons.mpr ⟨(hf 11 (by decide)).1, List.forall_mem_cons.mpr ⟨(hf 12 (by decide)).1, List.forall_mem_cons.mpr ⟨(hf 13 (by decide)).1, List.forall_mem_cons.mpr ⟨(hf 14 (by decide)).1, List.forall_mem_cons.mpr ⟨(hf 15 (by decide)).1, List.forall_mem_cons.mpr ⟨(hf 16 (by decide)).1, List.forall_mem_cons.mpr ⟨(hf 17 (by decide)).1, List.forall_mem_cons.mpr ⟨(hf 18 (by decide)).1, List.forall_mem_cons.mpr ⟨(hf 19 (by decide)).1, List.forall_mem_cons.mpr ⟨(hf 20 (by decide)).1, List.forall_mem_cons.mpr ⟨(hf 21 (by decide)).1, List.forall_mem_cons.mpr ⟨(hf 22 (by decide)).1, List.forall_mem_cons.mpr ⟨(hf 23 (by decide)).1, List.forall_mem_cons.mpr ⟨(hf 24 (by decide)).1, List.forall_mem_cons.mpr ⟨(hf 25 (by decide)).1, List.forall_mem_cons.mpr ⟨(hf 26 (by decide)).1, List.forall_mem_cons.mpr ⟨(hf 27 (by decide)).1, List.forall_mem_cons.mpr ⟨(hf 28 (by decide)).1, List.forall_mem_cons.mpr ⟨(hf 29 (by decide)).1, List.forall_mem_cons.mpr ⟨(hf 30 (by decide)).1, List.forall_mem_cons.mpr ⟨(hf 31 (by decide)).1, List.forall_mem_cons.mpr ⟨(hf 32 (by decide)).1, List.forall_mem_cons.mpr ⟨(hf 33 (by decide)).1, List.forall_mem_cons.mpr ⟨(hf 34 (by decide)).1, List.forall_mem_cons.mpr ⟨(hf 35 (by decide)).1, List.forall_mem_cons.mpr ⟨(hf 36 (by decide)).1, List.forall_mem_cons.mpr ⟨(hf 37 (by decide)).1, List.forall_mem_cons.mpr ⟨(hf 38 (by decide)).1, List.forall_mem_cons.mpr ⟨(hf 39 (by decide)).1, List.forall_mem_cons.mpr ⟨(hf 40 (by decide)).1, List.forall_mem_cons.mpr ⟨(hf 41 (by decide)).1, List.forall_mem_cons.mpr ⟨(hf 42 (by decide)).1, List.forall_mem_cons.mpr ⟨(hf 43 (by decide)).1, List.forall_mem_cons.mpr ⟨(hf 44 (by decide)).1, List.forall_mem_cons.mpr ⟨(hf 45 (by decide)).1, List.forall_mem_cons.mpr ⟨(hf 46 (by decide)).1, List.forall_mem_cons.mpr ⟨(hf 47 (by decide)).1, List.forall_mem_cons.mpr ⟨(hf 48 (by decide)).1, List.forall_mem_cons.mpr ⟨(hf 49 (by decide)).1, List.forall_mem_cons.mpr ⟨(hf 50 (by decide)).1, List.forall_mem_cons.mpr ⟨(hf 51 (by decide)).1, List.forall_mem_cons.mpr ⟨(hf 52 (by decide)).1, List.forall_mem_cons.mpr ⟨(hf 53 (by decide)).1, fun _ h => nomatch h⟩⟩⟩⟩⟩⟩⟩⟩⟩⟩⟩⟩⟩⟩⟩⟩⟩⟩⟩⟩⟩⟩⟩⟩⟩⟩⟩⟩⟩⟩⟩⟩⟩⟩⟩⟩⟩⟩⟩⟩⟩⟩⟩⟩⟩⟩⟩⟩⟩⟩⟩⟩⟩⟩
  refine ⟨D, cA, ad, fun i => (f i).2, ⟨hK, fun q hq => by rw [had1]; exact hst q hq, gw_nest hts, gw_oth hts, gw_nc h, gw_zU h hts hA, gw_zS h hts hA, ⟨gw_zC h hts hA, gw_zP h hts hA⟩, fun i hi => ?_, fun q hq => hq, fun k hk => ?_⟩, ?_, ?_⟩
  · rw [had1]
    exact (hf i hi).2
  · rw [had2 _ (by omega), had2 _ (by omega)]; omega
  · rw [ead]; rfl
  · rw [had2 0 (by omega)]; rfl
end GV0
end
