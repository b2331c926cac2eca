noncomputable section
section GV0
theorem gw_t1 (i : Nat) {w : Cond} (h : tables_1_1[i]? = some w) : w ∈ lw_tbl := List.mem_append_right _ (List.mem_append_left _ (List.mem_of_getElem? h))
theorem gw_t2 (i : Nat) {w : Cond} (h : tables_1_2[i]? = some w) : w ∈ lw_tbl := List.mem_append_right _ (List.mem_append_right _ (List.mem_append_left _ (List.mem_of_getElem? h)))
theorem gw_t3 (i : Nat) {w : Cond} (h : tables_1_3[i]? = some w) : w ∈ lw_tbl := List.mem_append_right _ (List.mem_append_right _ (List.mem_append_right _ (List.mem_append_left _ (List.mem_of_getElem? h))))
theorem gw_t4 (i : Nat) {w : Cond} (h : tables_1_4[i]? = some w) : w ∈ lw_tbl := List.mem_append_right _ (List.mem_append_right _ (List.mem_append_right _ (List.mem_append_right _ (List.mem_append_left _ (List.mem_of_getElem? h)))))
theorem gw_t5 (i : Nat) {w : Cond} (h : tables_1_5[i]? = some w) : w ∈ lw_tbl := List.mem_append_right _ (List.mem_append_right _ (List.mem_append_right _ (List.mem_append_right _ (List.mem_append_right _ (List.mem_append_left _ (List.mem_of_getElem? h))))))
theorem gw_t6 (i : Nat) {w : Cond} (h : tables_1_6[i]? = some w) : w ∈ lw_tbl := List.mem_append_right _ (List.mem_append_right _ (List.mem_append_right _ (List.mem_append_right _ (List.mem_append_right _ (List.mem_append_right _ (List.mem_of_getElem? h))))))
def gw_pt : List Bool → Cond → Option Cond
  | [], c => some c
  | b :: r, .and x y => gw_pt r (bif b then y else x)
  | _ :: _, _ => none
theorem gw_pt_ok {args : Array Value} {s : State} : ∀ (p : List Bool) (c w : Cond), gw_pt p c = some w → c.before args s = true → w.before args s = true := by
  intro p
  induction p with
  | nil => intro c w h hc; cases h; exact hc
  | cons b r ih =>
    intro c w h hc
    cases c with
    | and x y =>
      have h1 : gw_pt r (bif b then y else x) = some w := h
      rw [Cond.before_and, Bool.and_eq_true] at hc
      cases b with
      | true => exact ih y w h1 hc.2
      | false => exact ih x w h1 hc.1
    | _ => cases h
variable {args : Array Value} {s : State} {A : Nat → Prop}
theorem gw_n (p : List Bool) {w : Cond} (h : narrow_1.before args s = true) (e : gw_pt p narrow_1 = some w) : w.before args s = true := gw_pt_ok p _ _ e h
def gw_S (A : Nat → Prop) (s : State) (z : String × Nat × String × Nat) (tx : List Nat) (q : Nat × Nat) : Prop := vk_R z.1 z.2.1 z.2.2.1 q.1 s ∧ va_O "java/lang/String" q.1 A s s.heap ∧ va_OF "java/lang/String" "coder" "B" (.int 0) q.1 A s s.heap ∧ va_OF "java/lang/String" "value" "[B" (.ref q.2) q.1 A s s.heap ∧ va_T .byte q.2 tx.length (fun j => .int (Int32.ofNat (tx.getD j 0))) A s s.heap
theorem gw_Sof {own tx9 : String} {k i : Nat} {tx : List Nat} (hsr : (Cond.stringRef own k tx9).before args s = true) (hN : tx.length < 2 ^ 31) (hex : (Cond.exactly (.string own k) "java/lang/String").before args s = true) (hco : (Cond.eq (.field (.string own k) "java/lang/String" "coder" "B") (.int 0)).before args s = true)
    (har : (Cond.arrayOf (.field (.string own k) "java/lang/String" "value" "[B") .byte).before args s = true) (hle : (Cond.eq (.length (.field (.string own k) "java/lang/String" "value" "[B")) (.int (Int32.ofNat tx.length))).before args s = true)
    (hel : ∀ j : Nat, j < tx.length → (Cond.eq (.elem (.field (.string own k) "java/lang/String" "value" "[B") (.int (Int32.ofNat j))) (.int (Int32.ofNat (tx.getD j 0)))).before args s = true) (hA : ∀ a : Nat, a < s.heap.size → ¬ A a) : ∃ q, gw_S A s (own, k, tx9, i) tx q := by
  obtain ⟨a, c, cA, kA, q1, q2, q3, q4, q5, q6, -⟩ := Cond.exactly_spec (args := args) (first := s) (o := none) (s := s) (idx := []) (t := .string own k) (cls := "java/lang/String") hex
  obtain ⟨t, ht, hT⟩ := va_Tof (f := fun j => .int (Int32.ofNat (tx.getD j 0))) (A := A) hN har (va_eqt hle) (fun j hj => va_eqt (hel j hj)) hA
  exact ⟨(a, t), vk_R.of hsr q1, ⟨cA, q3, q5, by rw [q6]; exact q2, hA a (Array.getElem?_eq_some_iff.mp q3).1⟩, vk_OFof q1 (va_eqt hco) hA, vk_OFof q1 ht hA, hT⟩
theorem gw_s0 (h : narrow_1.before args s = true) (hts : ∀ w ∈ lw_tbl, w.before args s = true) (hA : ∀ a : Nat, a < s.heap.size → ¬ A a) : ∃ q, gw_S A s ("SubstituteDesk$SchoolText", 49, "grid", 0) [103, 114, 105, 100] q :=
  gw_Sof (hts _ (gw_t3 22 rfl)) (by decide +kernel) (gw_n [false, false, false, false, false, true, true, true, true, true] h rfl) (gw_n [false, false, false, false, true, false, false, false, false] h rfl) (gw_n [false, false, false, false, true, false, false, false, true, false] h rfl) (gw_n [false, false, false, false, true, false, false, false, true, true] h rfl) (fun j hj => match j, hj with
    | 0, _ => (gw_n [false, false, false, false, true, false, false, true, false] h rfl)
    | 1, _ => (gw_n [false, false, false, false, true, false, false, true, true, false] h rfl)
    | 2, _ => (gw_n [false, false, false, false, true, false, false, true, true, true] h rfl)
    | 3, _ => (gw_n [false, false, false, false, true, false, true, false, false] h rfl)
    | m + 4, hj => absurd hj (Nat.not_lt.mpr (Nat.le_add_left 4 m))) hA
theorem gw_s1 (h : narrow_1.before args s = true) (hts : ∀ w ∈ lw_tbl, w.before args s = true) (hA : ∀ a : Nat, a < s.heap.size → ¬ A a) : ∃ q, gw_S A s ("SubstituteDesk$SchoolText", 73, "subject", 1) [115, 117, 98, 106, 101, 99, 116] q :=
  gw_Sof (hts _ (gw_t3 104 rfl)) (by decide +kernel) (gw_n [false, false, false, false, true, false, true, false, true, false] h rfl) (gw_n [false, false, false, false, true, false, true, false, true, true] h rfl) (gw_n [false, false, false, false, true, false, true, true, false] h rfl) (gw_n [false, false, false, false, true, false, true, true, true, false] h rfl) (fun j hj => match j, hj with
    | 0, _ => (gw_n [false, false, false, false, true, false, true, true, true, true] h rfl)
    | 1, _ => (gw_n [false, false, false, false, true, true, false, false, false] h rfl)
    | 2, _ => (gw_n [false, false, false, false, true, true, false, false, true, false] h rfl)
    | 3, _ => (gw_n [false, false, false, false, true, true, false, false, true, true] h rfl)
    | 4, _ => (gw_n [false, false, false, false, true, true, false, true, false] h rfl)
    | 5, _ => (gw_n [false, false, false, false, true, true, false, true, true, false] h rfl)
    | 6, _ => (gw_n [false, false, false, false, true, true, false, true, true, true] h rfl)
    | m + 7, hj => absurd hj (Nat.not_lt.mpr (Nat.le_add_left 7 m))) hA
theorem gw_s2 (h : narrow_1.before args s = true) (hts : ∀ w ∈ lw_tbl, w.before args s = true) (hA : ∀ a : Nat, a < s.heap.size → ¬ A a) : ∃ q, gw_S A s ("SubstituteDesk$SchoolText", 86, "teacher", 2) [116, 101, 97, 99, 104, 101, 114] q :=
  gw_Sof (hts _ (gw_t3 110 rfl)) (by decide +kernel) (gw_n [false, false, false, false, true, true, true, false, true, false] h rfl) (gw_n [false, false, false, false, true, true, true, false, true, true] h rfl) (gw_n [false, false, false, false, true, true, true, true, false, false] h rfl) (gw_n [false, false, false, false, true, true, true, true, false, true] h rfl) (fun j hj => match j, hj with
    | 0, _ => (gw_n [false, false, false, false, true, true, true, true, true, false] h rfl)
    | 1, _ => (gw_n [false, false, false, false, true, true, true, true, true, true] h rfl)
    | 2, _ => (gw_n [false, false, false, true, false, false, false, false, false] h rfl)
    | 3, _ => (gw_n [false, false, false, true, false, false, false, false, true, false] h rfl)
    | 4, _ => (gw_n [false, false, false, true, false, false, false, false, true, true] h rfl)
    | 5, _ => (gw_n [false, false, false, true, false, false, false, true, false] h rfl)
    | 6, _ => (gw_n [false, false, false, true, false, false, false, true, true, false] h rfl)
    | m + 7, hj => absurd hj (Nat.not_lt.mpr (Nat.le_add_left 7 m))) hA
theorem gw_s3 (h : narrow_1.before args s = true) (hts : ∀ w ∈ lw_tbl, w.before args s = true) (hA : ∀ a : Nat, a < s.heap.size → ¬ A a) : ∃ q, gw_S A s ("SubstituteDesk$SchoolText", 107, "room", 3) [114, 111, 111, 109] q :=
  gw_Sof (hts _ (gw_t3 121 rfl)) (by decide +kernel) (gw_n [false, false, false, true, false, false, true, false, true, false] h rfl) (gw_n [false, false, false, true, false, false, true, false, true, true] h rfl) (gw_n [false, false, false, true, false, false, true, true, false] h rfl) (gw_n [false, false, false, true, false, false, true, true, true, false] h rfl) (fun j hj => match j, hj with
    | 0, _ => (gw_n [false, false, false, true, false, false, true, true, true, true] h rfl)
    | 1, _ => (gw_n [false, false, false, true, false, true, false, false, false] h rfl)
    | 2, _ => (gw_n [false, false, false, true, false, true, false, false, true, false] h rfl)
    | 3, _ => (gw_n [false, false, false, true, false, true, false, false, true, true] h rfl)
    | m + 4, hj => absurd hj (Nat.not_lt.mpr (Nat.le_add_left 4 m))) hA
theorem gw_s4 (h : narrow_1.before args s = true) (hts : ∀ w ∈ lw_tbl, w.before args s = true) (hA : ∀ a : Nat, a < s.heap.size → ¬ A a) : ∃ q, gw_S A s ("SubstituteDesk$SchoolText", 112, "classes", 4) [99, 108, 97, 115, 115, 101, 115] q :=
  gw_Sof (hts _ (gw_t3 127 rfl)) (by decide +kernel) (gw_n [false, false, false, true, false, true, true, false, false] h rfl) (gw_n [false, false, false, true, false, true, true, false, true, false] h rfl) (gw_n [false, false, false, true, false, true, true, false, true, true] h rfl) (gw_n [false, false, false, true, false, true, true, true, false, false] h rfl) (fun j hj => match j, hj with
    | 0, _ => (gw_n [false, false, false, true, false, true, true, true, false, true] h rfl)
    | 1, _ => (gw_n [false, false, false, true, false, true, true, true, true, false] h rfl)
    | 2, _ => (gw_n [false, false, false, true, false, true, true, true, true, true] h rfl)
    | 3, _ => (gw_n [false, false, false, true, true, false, false, false, false] h rfl)
    | 4, _ => (gw_n [false, false, false, true, true, false, false, false, true, false] h rfl)
    | 5, _ => (gw_n [false, false, false, true, true, false, false, false, true, true] h rfl)
    | 6, _ => (gw_n [false, false, false, true, true, false, false, true, false] h rfl)
    | m + 7, hj => absurd hj (Nat.not_lt.mpr (Nat.le_add_left 7 m))) hA
theorem gw_s5 (h : narrow_1.before args s = true) (hts : ∀ w ∈ lw_tbl, w.before args s = true) (hA : ∀ a : Nat, a < s.heap.size → ¬ A a) : ∃ q, gw_S A s ("SubstituteDesk$SchoolText", 116, "lesson", 5) [108, 101, 115, 115, 111, 110] q :=
  gw_Sof (hts _ (gw_t3 132 rfl)) (by decide +kernel) (gw_n [false, false, false, true, true, false, true, false, true, true] h rfl) (gw_n [false, false, false, true, true, false, true, true, false] h rfl) (gw_n [false, false, false, true, true, false, true, true, true, false] h rfl) (gw_n [false, false, false, true, true, false, true, true, true, true] h rfl) (fun j hj => match j, hj with
    | 0, _ => (gw_n [false, false, false, true, true, true, false, false, false] h rfl)
    | 1, _ => (gw_n [false, false, false, true, true, true, false, false, true, false] h rfl)
    | 2, _ => (gw_n [false, false, false, true, true, true, false, false, true, true] h rfl)
    | 3, _ => (gw_n [false, false, false, true, true, true, false, true, false] h rfl)
    | 4, _ => (gw_n [false, false, false, true, true, true, false, true, true, false] h rfl)
    | 5, _ => (gw_n [false, false, false, true, true, true, false, true, true, true] h rfl)
    | m + 6, hj => absurd hj (Nat.not_lt.mpr (Nat.le_add_left 6 m))) hA
theorem gw_s6 (h : narrow_1.before args s = true) (hts : ∀ w ∈ lw_tbl, w.before args s = true) (hA : ∀ a : Nat, a < s.heap.size → ¬ A a) : ∃ q, gw_S A s ("SubstituteDesk", 427, "there is no such teacher", 6) [116, 104, 101, 114, 101, 32, 105, 115, 32, 110, 111, 32, 115, 117, 99, 104, 32, 116, 101, 97, 99, 104, 101, 114] q :=
  gw_Sof (hts _ (gw_t3 226 rfl)) (by decide +kernel) (gw_n [false, false, false, true, true, true, true, true, true, false] h rfl) (gw_n [false, false, false, true, true, true, true, true, true, true] h rfl) (gw_n [false, false, true, false, false, false, false, false, false] h rfl) (gw_n [false, false, true, false, false, false, false, false, true, false] h rfl) (fun j hj => match j, hj with
    | 0, _ => (gw_n [false, false, true, false, false, false, false, false, true, true] h rfl)
    | 1, _ => (gw_n [false, false, true, false, false, false, false, true, false] h rfl)
    | 2, _ => (gw_n [false, false, true, false, false, false, false, true, true, false] h rfl)
    | 3, _ => (gw_n [false, false, true, false, false, false, false, true, true, true] h rfl)
    | 4, _ => (gw_n [false, false, true, false, false, false, true, false, false] h rfl)
    | 5, _ => (gw_n [false, false, true, false, false, false, true, false, true, false] h rfl)
    | 6, _ => (gw_n [false, false, true, false, false, false, true, false, true, true] h rfl)
    | 7, _ => (gw_n [false, false, true, false, false, false, true, true, false] h rfl)
    | 8, _ => (gw_n [false, false, true, false, false, false, true, true, true, false] h rfl)
    | 9, _ => (gw_n [false, false, true, false, false, false, true, true, true, true] h rfl)
    | 10, _ => (gw_n [false, false, true, false, false, true, false, false, false] h rfl)
    | 11, _ => (gw_n [false, false, true, false, false, true, false, false, true, false] h rfl)
    | 12, _ => (gw_n [false, false, true, false, false, true, false, false, true, true] h rfl)
    | 13, _ => (gw_n [false, false, true, false, false, true, false, true, false] h rfl)
    | 14, _ => (gw_n [false, false, true, false, false, true, false, true, true, false] h rfl)
    | 15, _ => (gw_n [false, false, true, false, false, true, false, true, true, true] h rfl)
    | 16, _ => (gw_n [false, false, true, false, false, true, true, false, false] h rfl)
    | 17, _ => (gw_n [false, false, true, false, false, true, true, false, true, false] h rfl)
    | 18, _ => (gw_n [false, false, true, false, false, true, true, false, true, true] h rfl)
    | 19, _ => (gw_n [false, false, true, false, false, true, true, true, false, false] h rfl)
    | 20, _ => (gw_n [false, false, true, false, false, true, true, true, false, true] h rfl)
    | 21, _ => (gw_n [false, false, true, false, false, true, true, true, true, false] h rfl)
    | 22, _ => (gw_n [false, false, true, false, false, true, true, true, true, true] h rfl)
    | 23, _ => (gw_n [false, false, true, false, true, false, false, false, false] h rfl)
    | m + 24, hj => absurd hj (Nat.not_lt.mpr (Nat.le_add_left 24 m))) hA
theorem gw_s7 (h : narrow_1.before args s = true) (hts : ∀ w ∈ lw_tbl, w.before args s = true) (hA : ∀ a : Nat, a < s.heap.size → ¬ A a) : ∃ q, gw_S A s ("SubstituteDesk", 432, "there is no such day", 7) [116, 104, 101, 114, 101, 32, 105, 115, 32, 110, 111, 32, 115, 117, 99, 104, 32, 100, 97, 121] q :=
  gw_Sof (hts _ (gw_t4 20 rfl)) (by decide +kernel) (gw_n [false, false, true, false, true, false, true, false, true, false] h rfl) (gw_n [false, false, true, false, true, false, true, false, true, true] h rfl) (gw_n [false, false, true, false, true, false, true, true, false] h rfl) (gw_n [false, false, true, false, true, false, true, true, true, false] h rfl) (fun j hj => match j, hj with
    | 0, _ => (gw_n [false, false, true, false, true, false, true, true, true, true] h rfl)
    | 1, _ => (gw_n [false, false, true, false, true, true, false, false, false] h rfl)
    | 2, _ => (gw_n [false, false, true, false, true, true, false, false, true, false] h rfl)
    | 3, _ => (gw_n [false, false, true, false, true, true, false, false, true, true] h rfl)
    | 4, _ => (gw_n [false, false, true, false, true, true, false, true, false] h rfl)
    | 5, _ => (gw_n [false, false, true, false, true, true, false, true, true, false] h rfl)
    | 6, _ => (gw_n [false, false, true, false, true, true, false, true, true, true] h rfl)
    | 7, _ => (gw_n [false, false, true, false, true, true, true, false, false] h rfl)
    | 8, _ => (gw_n [false, false, true, false, true, true, true, false, true, false] h rfl)
    | 9, _ => (gw_n [false, false, true, false, true, true, true, false, true, true] h rfl)
    | 10, _ => (gw_n [false, false, true, false, true, true, true, true, false, false] h rfl)
    | 11, _ => (gw_n [false, false, true, false, true, true, true, true, false, true] h rfl)
    | 12, _ => (gw_n [false, false, true, false, true, true, true, true, true, false] h rfl)
    | 13, _ => (gw_n [false, false, true, false, true, true, true, true, true, true] h rfl)
    | 14, _ => (gw_n [false, false, true, true, false, false, false, false, false] h rfl)
    | 15, _ => (gw_n [false, false, true, true, false, false, false, false, true, false] h rfl)
    | 16, _ => (gw_n [false, false, true, true, false, false, false, false, true, true] h rfl)
    | 17, _ => (gw_n [false, false, true, true, false, false, false, true, false] h rfl)
    | 18, _ => (gw_n [false, false, true, true, false, false, false, true, true, false] h rfl)
    | 19, _ => (gw_n [false, false, true, true, false, false, false, true, true, true] h rfl)
    | m + 20, hj => absurd hj (Nat.not_lt.mpr (Nat.le_add_left 20 m))) hA
theorem gw_s8 (h : narrow_1.before args s = true) (hts : ∀ w ∈ lw_tbl, w.before args s = true) (hA : ∀ a : Nat, a < s.heap.size → ¬ A a) : ∃ q, gw_S A s ("SubstituteDesk", 422, "there is no such lesson", 8) [116, 104, 101, 114, 101, 32, 105, 115, 32, 110, 111, 32, 115, 117, 99, 104, 32, 108, 101, 115, 115, 111, 110] q :=
  gw_Sof (hts _ (gw_t4 148 rfl)) (by decide +kernel) (gw_n [false, false, true, true, false, true, false, false, true, false] h rfl) (gw_n [false, false, true, true, false, true, false, false, true, true] h rfl) (gw_n [false, false, true, true, false, true, false, true, false] h rfl) (gw_n [false, false, true, true, false, true, false, true, true, false] h rfl) (fun j hj => match j, hj with
    | 0, _ => (gw_n [false, false, true, true, false, true, false, true, true, true] h rfl)
    | 1, _ => (gw_n [false, false, true, true, false, true, true, false, false] h rfl)
    | 2, _ => (gw_n [false, false, true, true, false, true, true, false, true, false] h rfl)
    | 3, _ => (gw_n [false, false, true, true, false, true, true, false, true, true] h rfl)
    | 4, _ => (gw_n [false, false, true, true, false, true, true, true, false, false] h rfl)
    | 5, _ => (gw_n [false, false, true, true, false, true, true, true, false, true] h rfl)
    | 6, _ => (gw_n [false, false, true, true, false, true, true, true, true, false] h rfl)
    | 7, _ => (gw_n [false, false, true, true, false, true, true, true, true, true] h rfl)
    | 8, _ => (gw_n [false, false, true, true, true, false, false, false, false] h rfl)
    | 9, _ => (gw_n [false, false, true, true, true, false, false, false, true, false] h rfl)
    | 10, _ => (gw_n [false, false, true, true, true, false, false, false, true, true] h rfl)
    | 11, _ => (gw_n [false, false, true, true, true, false, false, true, false] h rfl)
    | 12, _ => (gw_n [false, false, true, true, true, false, false, true, true, false] h rfl)
    | 13, _ => (gw_n [false, false, true, true, true, false, false, true, true, true] h rfl)
    | 14, _ => (gw_n [false, false, true, true, true, false, true, false, false] h rfl)
    | 15, _ => (gw_n [false, false, true, true, true, false, true, false, true, false] h rfl)
    | 16, _ => (gw_n [false, false, true, true, true, false, true, false, true, true] h rfl)
    | 17, _ => (gw_n [false, false, true, true, true, false, true, true, false] h rfl)
    | 18, _ => (gw_n [false, false, true, true, true, false, true, true, true, false] h rfl)
    | 19, _ => (gw_n [false, false, true, true, true, false, true, true, true, true] h rfl)
    | 20, _ => (gw_n [false, false, true, true, true, true, false, false, false] h rfl)
    | 21, _ => (gw_n [false, false, true, true, true, true, false, false, true, false] h rfl)
    | 22, _ => (gw_n [false, false, true, true, true, true, false, false, true, true] h rfl)
    | m + 23, hj => absurd hj (Nat.not_lt.mpr (Nat.le_add_left 23 m))) hA
theorem gw_s9 (h : narrow_1.before args s = true) (hts : ∀ w ∈ lw_tbl, w.before args s = true) (hA : ∀ a : Nat, a < s.heap.size → ¬ A a) : ∃ q, gw_S A s ("SubstituteDesk", 442, "there is no such room", 9) [116, 104, 101, 114, 101, 32, 105, 115, 32, 110, 111, 32, 115, 117, 99, 104, 32, 114, 111, 111, 109] q :=
  gw_Sof (hts _ (gw_t4 205 rfl)) (by decide +kernel) (gw_n [false, false, true, true, true, true, true, true, true, false] h rfl) (gw_n [false, false, true, true, true, true, true, true, true, true] h rfl) (gw_n [false, true, false, false, false, false, false, false, false] h rfl) (gw_n [false, true, false, false, false, false, false, false, true, false] h rfl) (fun j hj => match j, hj with
    | 0, _ => (gw_n [false, true, false, false, false, false, false, false, true, true] h rfl)
    | 1, _ => (gw_n [false, true, false, false, false, false, false, true, false] h rfl)
    | 2, _ => (gw_n [false, true, false, false, false, false, false, true, true, false] h rfl)
    | 3, _ => (gw_n [false, true, false, false, false, false, false, true, true, true] h rfl)
    | 4, _ => (gw_n [false, true, false, false, false, false, true, false, false] h rfl)
    | 5, _ => (gw_n [false, true, false, false, false, false, true, false, true, false] h rfl)
    | 6, _ => (gw_n [false, true, false, false, false, false, true, false, true, true] h rfl)
    | 7, _ => (gw_n [false, true, false, false, false, false, true, true, false] h rfl)
    | 8, _ => (gw_n [false, true, false, false, false, false, true, true, true, false] h rfl)
    | 9, _ => (gw_n [false, true, false, false, false, false, true, true, true, true] h rfl)
    | 10, _ => (gw_n [false, true, false, false, false, true, false, false, false] h rfl)
    | 11, _ => (gw_n [false, true, false, false, false, true, false, false, true, false] h rfl)
    | 12, _ => (gw_n [false, true, false, false, false, true, false, false, true, true] h rfl)
    | 13, _ => (gw_n [false, true, false, false, false, true, false, true, false] h rfl)
    | 14, _ => (gw_n [false, true, false, false, false, true, false, true, true, false] h rfl)
    | 15, _ => (gw_n [false, true, false, false, false, true, false, true, true, true] h rfl)
    | 16, _ => (gw_n [false, true, false, false, false, true, true, false, false] h rfl)
    | 17, _ => (gw_n [false, true, false, false, false, true, true, false, true, false] h rfl)
    | 18, _ => (gw_n [false, true, false, false, false, true, true, false, true, true] h rfl)
    | 19, _ => (gw_n [false, true, false, false, false, true, true, true, false, false] h rfl)
    | 20, _ => (gw_n [false, true, false, false, false, true, true, true, false, true] h rfl)
    | m + 21, hj => absurd hj (Nat.not_lt.mpr (Nat.le_add_left 21 m))) hA
theorem gw_s10 (h : narrow_1.before args s = true) (hts : ∀ w ∈ lw_tbl, w.before args s = true) (hA : ∀ a : Nat, a < s.heap.size → ¬ A a) : ∃ q, gw_S A s ("SubstituteDesk", 277, "the chain has no such teacher", 10) [116, 104, 101, 32, 99, 104, 97, 105, 110, 32, 104, 97, 115, 32, 110, 111, 32, 115, 117, 99, 104, 32, 116, 101, 97, 99, 104, 101, 114] q :=
  gw_Sof (hts _ (gw_t4 228 rfl)) (by decide +kernel) (gw_n [false, true, false, false, true, false, true, false, true, false] h rfl) (gw_n [false, true, false, false, true, false, true, false, true, true] h rfl) (gw_n [false, true, false, false, true, false, true, true, false] h rfl) (gw_n [false, true, false, false, true, false, true, true, true, false] h rfl) (fun j hj => match j, hj with
    | 0, _ => (gw_n [false, true, false, false, true, false, true, true, true, true] h rfl)
    | 1, _ => (gw_n [false, true, false, false, true, true, false, false, false] h rfl)
    | 2, _ => (gw_n [false, true, false, false, true, true, false, false, true, false] h rfl)
    | 3, _ => (gw_n [false, true, false, false, true, true, false, false, true, true] h rfl)
    | 4, _ => (gw_n [false, true, false, false, true, true, false, true, false] h rfl)
    | 5, _ => (gw_n [false, true, false, false, true, true, false, true, true, false] h rfl)
    | 6, _ => (gw_n [false, true, false, false, true, true, false, true, true, true] h rfl)
    | 7, _ => (gw_n [false, true, false, false, true, true, true, false, false] h rfl)
    | 8, _ => (gw_n [false, true, false, false, true, true, true, false, true, false] h rfl)
    | 9, _ => (gw_n [false, true, false, false, true, true, true, false, true, true] h rfl)
    | 10, _ => (gw_n [false, true, false, false, true, true, true, true, false, false] h rfl)
    | 11, _ => (gw_n [false, true, false, false, true, true, true, true, false, true] h rfl)
    | 12, _ => (gw_n [false, true, false, false, true, true, true, true, true, false] h rfl)
    | 13, _ => (gw_n [false, true, false, false, true, true, true, true, true, true] h rfl)
    | 14, _ => (gw_n [false, true, false, true, false, false, false, false, false] h rfl)
    | 15, _ => (gw_n [false, true, false, true, false, false, false, false, true, false] h rfl)
    | 16, _ => (gw_n [false, true, false, true, false, false, false, false, true, true] h rfl)
    | 17, _ => (gw_n [false, true, false, true, false, false, false, true, false] h rfl)
    | 18, _ => (gw_n [false, true, false, true, false, false, false, true, true, false] h rfl)
    | 19, _ => (gw_n [false, true, false, true, false, false, false, true, true, true] h rfl)
    | 20, _ => (gw_n [false, true, false, true, false, false, true, false, false] h rfl)
    | 21, _ => (gw_n [false, true, false, true, false, false, true, false, true, false] h rfl)
    | 22, _ => (gw_n [false, true, false, true, false, false, true, false, true, true] h rfl)
    | 23, _ => (gw_n [false, true, false, true, false, false, true, true, false] h rfl)
    | 24, _ => (gw_n [false, true, false, true, false, false, true, true, true, false] h rfl)
    | 25, _ => (gw_n [false, true, false, true, false, false, true, true, true, true] h rfl)
    | 26, _ => (gw_n [false, true, false, true, false, true, false, false, false] h rfl)
    | 27, _ => (gw_n [false, true, false, true, false, true, false, false, true, false] h rfl)
    | 28, _ => (gw_n [false, true, false, true, false, true, false, false, true, true] h rfl)
    | m + 29, hj => absurd hj (Nat.not_lt.mpr (Nat.le_add_left 29 m))) hA
theorem gw_s11 (h : narrow_1.before args s = true) (hts : ∀ w ∈ lw_tbl, w.before args s = true) (hA : ∀ a : Nat, a < s.heap.size → ¬ A a) : ∃ q, gw_S A s ("SubstituteDesk", 307, "there is no such count", 11) [116, 104, 101, 114, 101, 32, 105, 115, 32, 110, 111, 32, 115, 117, 99, 104, 32, 99, 111, 117, 110, 116] q :=
  gw_Sof (hts _ (gw_t5 30 rfl)) (by decide +kernel) (gw_n [false, true, false, true, true, false, false, false, false] h rfl) (gw_n [false, true, false, true, true, false, false, false, true, false] h rfl) (gw_n [false, true, false, true, true, false, false, false, true, true] h rfl) (gw_n [false, true, false, true, true, false, false, true, false] h rfl) (fun j hj => match j, hj with
    | 0, _ => (gw_n [false, true, false, true, true, false, false, true, true, false] h rfl)
    | 1, _ => (gw_n [false, true, false, true, true, false, false, true, true, true] h rfl)
    | 2, _ => (gw_n [false, true, false, true, true, false, true, false, false] h rfl)
    | 3, _ => (gw_n [false, true, false, true, true, false, true, false, true, false] h rfl)
    | 4, _ => (gw_n [false, true, false, true, true, false, true, false, true, true] h rfl)
    | 5, _ => (gw_n [false, true, false, true, true, false, true, true, false] h rfl)
    | 6, _ => (gw_n [false, true, false, true, true, false, true, true, true, false] h rfl)
    | 7, _ => (gw_n [false, true, false, true, true, false, true, true, true, true] h rfl)
    | 8, _ => (gw_n [false, true, false, true, true, true, false, false, false] h rfl)
    | 9, _ => (gw_n [false, true, false, true, true, true, false, false, true, false] h rfl)
    | 10, _ => (gw_n [false, true, false, true, true, true, false, false, true, true] h rfl)
    | 11, _ => (gw_n [false, true, false, true, true, true, false, true, false] h rfl)
    | 12, _ => (gw_n [false, true, false, true, true, true, false, true, true, false] h rfl)
    | 13, _ => (gw_n [false, true, false, true, true, true, false, true, true, true] h rfl)
    | 14, _ => (gw_n [false, true, false, true, true, true, true, false, false] h rfl)
    | 15, _ => (gw_n [false, true, false, true, true, true, true, false, true, false] h rfl)
    | 16, _ => (gw_n [false, true, false, true, true, true, true, false, true, true] h rfl)
    | 17, _ => (gw_n [false, true, false, true, true, true, true, true, false, false] h rfl)
    | 18, _ => (gw_n [false, true, false, true, true, true, true, true, false, true] h rfl)
    | 19, _ => (gw_n [false, true, false, true, true, true, true, true, true, false] h rfl)
    | 20, _ => (gw_n [false, true, false, true, true, true, true, true, true, true] h rfl)
    | 21, _ => (gw_n [false, true, true, false, false, false, false, false, false] h rfl)
    | m + 22, hj => absurd hj (Nat.not_lt.mpr (Nat.le_add_left 22 m))) hA
theorem gw_s12 (h : narrow_1.before args s = true) (hts : ∀ w ∈ lw_tbl, w.before args s = true) (hA : ∀ a : Nat, a < s.heap.size → ¬ A a) : ∃ q, gw_S A s ("SubstituteDesk", 330, "a lesson has no such property", 12) [97, 32, 108, 101, 115, 115, 111, 110, 32, 104, 97, 115, 32, 110, 111, 32, 115, 117, 99, 104, 32, 112, 114, 111, 112, 101, 114, 116, 121] q :=
  gw_Sof (hts _ (gw_t5 43 rfl)) (by decide +kernel) (gw_n [false, true, true, false, false, true, false, false, false] h rfl) (gw_n [false, true, true, false, false, true, false, false, true, false] h rfl) (gw_n [false, true, true, false, false, true, false, false, true, true] h rfl) (gw_n [false, true, true, false, false, true, false, true, false] h rfl) (fun j hj => match j, hj with
    | 0, _ => (gw_n [false, true, true, false, false, true, false, true, true, false] h rfl)
    | 1, _ => (gw_n [false, true, true, false, false, true, false, true, true, true] h rfl)
    | 2, _ => (gw_n [false, true, true, false, false, true, true, false, false] h rfl)
    | 3, _ => (gw_n [false, true, true, false, false, true, true, false, true, false] h rfl)
    | 4, _ => (gw_n [false, true, true, false, false, true, true, false, true, true] h rfl)
    | 5, _ => (gw_n [false, true, true, false, false, true, true, true, false, false] h rfl)
    | 6, _ => (gw_n [false, true, true, false, false, true, true, true, false, true] h rfl)
    | 7, _ => (gw_n [false, true, true, false, false, true, true, true, true, false] h rfl)
    | 8, _ => (gw_n [false, true, true, false, false, true, true, true, true, true] h rfl)
    | 9, _ => (gw_n [false, true, true, false, true, false, false, false, false] h rfl)
    | 10, _ => (gw_n [false, true, true, false, true, false, false, false, true, false] h rfl)
    | 11, _ => (gw_n [false, true, true, false, true, false, false, false, true, true] h rfl)
    | 12, _ => (gw_n [false, true, true, false, true, false, false, true, false] h rfl)
    | 13, _ => (gw_n [false, true, true, false, true, false, false, true, true, false] h rfl)
    | 14, _ => (gw_n [false, true, true, false, true, false, false, true, true, true] h rfl)
    | 15, _ => (gw_n [false, true, true, false, true, false, true, false, false] h rfl)
    | 16, _ => (gw_n [false, true, true, false, true, false, true, false, true, false] h rfl)
    | 17, _ => (gw_n [false, true, true, false, true, false, true, false, true, true] h rfl)
    | 18, _ => (gw_n [false, true, true, false, true, false, true, true, false] h rfl)
    | 19, _ => (gw_n [false, true, true, false, true, false, true, true, true, false] h rfl)
    | 20, _ => (gw_n [false, true, true, false, true, false, true, true, true, true] h rfl)
    | 21, _ => (gw_n [false, true, true, false, true, true, false, false, false] h rfl)
    | 22, _ => (gw_n [false, true, true, false, true, true, false, false, true, false] h rfl)
    | 23, _ => (gw_n [false, true, true, false, true, true, false, false, true, true] h rfl)
    | 24, _ => (gw_n [false, true, true, false, true, true, false, true, false] h rfl)
    | 25, _ => (gw_n [false, true, true, false, true, true, false, true, true, false] h rfl)
    | 26, _ => (gw_n [false, true, true, false, true, true, false, true, true, true] h rfl)
    | 27, _ => (gw_n [false, true, true, false, true, true, true, false, false] h rfl)
    | 28, _ => (gw_n [false, true, true, false, true, true, true, false, true, false] h rfl)
    | m + 29, hj => absurd hj (Nat.not_lt.mpr (Nat.le_add_left 29 m))) hA
theorem gw_s13 (h : narrow_1.before args s = true) (hts : ∀ w ∈ lw_tbl, w.before args s = true) (hA : ∀ a : Nat, a < s.heap.size → ¬ A a) : ∃ q, gw_S A s ("SubstituteDesk", 348, "a teacher has no such property", 13) [97, 32, 116, 101, 97, 99, 104, 101, 114, 32, 104, 97, 115, 32, 110, 111, 32, 115, 117, 99, 104, 32, 112, 114, 111, 112, 101, 114, 116, 121] q :=
  gw_Sof (hts _ (gw_t5 58 rfl)) (by decide +kernel) (gw_n [false, true, true, true, false, false, true, false, true, false] h rfl) (gw_n [false, true, true, true, false, false, true, false, true, true] h rfl) (gw_n [false, true, true, true, false, false, true, true, false] h rfl) (gw_n [false, true, true, true, false, false, true, true, true, false] h rfl) (fun j hj => match j, hj with
    | 0, _ => (gw_n [false, true, true, true, false, false, true, true, true, true] h rfl)
    | 1, _ => (gw_n [false, true, true, true, false, true, false, false, false] h rfl)
    | 2, _ => (gw_n [false, true, true, true, false, true, false, false, true, false] h rfl)
    | 3, _ => (gw_n [false, true, true, true, false, true, false, false, true, true] h rfl)
    | 4, _ => (gw_n [false, true, true, true, false, true, false, true, false] h rfl)
    | 5, _ => (gw_n [false, true, true, true, false, true, false, true, true, false] h rfl)
    | 6, _ => (gw_n [false, true, true, true, false, true, false, true, true, true] h rfl)
    | 7, _ => (gw_n [false, true, true, true, false, true, true, false, false] h rfl)
    | 8, _ => (gw_n [false, true, true, true, false, true, true, false, true, false] h rfl)
    | 9, _ => (gw_n [false, true, true, true, false, true, true, false, true, true] h rfl)
    | 10, _ => (gw_n [false, true, true, true, false, true, true, true, false, false] h rfl)
    | 11, _ => (gw_n [false, true, true, true, false, true, true, true, false, true] h rfl)
    | 12, _ => (gw_n [false, true, true, true, false, true, true, true, true, false] h rfl)
    | 13, _ => (gw_n [false, true, true, true, false, true, true, true, true, true] h rfl)
    | 14, _ => (gw_n [false, true, true, true, true, false, false, false, false] h rfl)
    | 15, _ => (gw_n [false, true, true, true, true, false, false, false, true, false] h rfl)
    | 16, _ => (gw_n [false, true, true, true, true, false, false, false, true, true] h rfl)
    | 17, _ => (gw_n [false, true, true, true, true, false, false, true, false] h rfl)
    | 18, _ => (gw_n [false, true, true, true, true, false, false, true, true, false] h rfl)
    | 19, _ => (gw_n [false, true, true, true, true, false, false, true, true, true] h rfl)
    | 20, _ => (gw_n [false, true, true, true, true, false, true, false, false] h rfl)
    | 21, _ => (gw_n [false, true, true, true, true, false, true, false, true, false] h rfl)
    | 22, _ => (gw_n [false, true, true, true, true, false, true, false, true, true] h rfl)
    | 23, _ => (gw_n [false, true, true, true, true, false, true, true, false] h rfl)
    | 24, _ => (gw_n [false, true, true, true, true, false, true, true, true, false] h rfl)
    | 25, _ => (gw_n [false, true, true, true, true, false, true, true, true, true] h rfl)
    | 26, _ => (gw_n [false, true, true, true, true, true, false, false, false] h rfl)
    | 27, _ => (gw_n [false, true, true, true, true, true, false, false, true, false] h rfl)
    | 28, _ => (gw_n [false, true, true, true, true, true, false, false, true, true] h rfl)
    | 29, _ => (gw_n [false, true, true, true, true, true, false, true, false] h rfl)
    | m + 30, hj => absurd hj (Nat.not_lt.mpr (Nat.le_add_left 30 m))) hA
theorem gw_s14 (h : narrow_1.before args s = true) (hts : ∀ w ∈ lw_tbl, w.before args s = true) (hA : ∀ a : Nat, a < s.heap.size → ¬ A a) : ∃ q, gw_S A s ("SubstituteDesk", 357, "there is no such subject", 14) [116, 104, 101, 114, 101, 32, 105, 115, 32, 110, 111, 32, 115, 117, 99, 104, 32, 115, 117, 98, 106, 101, 99, 116] q :=
  gw_Sof (hts _ (gw_t5 63 rfl)) (by decide +kernel) (gw_n [true, false, false, false, false, false, false, false, true, true, false] h rfl) (gw_n [true, false, false, false, false, false, false, false, true, true, true] h rfl) (gw_n [true, false, false, false, false, false, false, true, false, false] h rfl) (gw_n [true, false, false, false, false, false, false, true, false, true, false] h rfl) (fun j hj => match j, hj with
    | 0, _ => (gw_n [true, false, false, false, false, false, false, true, false, true, true] h rfl)
    | 1, _ => (gw_n [true, false, false, false, false, false, false, true, true, false] h rfl)
    | 2, _ => (gw_n [true, false, false, false, false, false, false, true, true, true, false] h rfl)
    | 3, _ => (gw_n [true, false, false, false, false, false, false, true, true, true, true] h rfl)
    | 4, _ => (gw_n [true, false, false, false, false, false, true, false, false, false] h rfl)
    | 5, _ => (gw_n [true, false, false, false, false, false, true, false, false, true, false] h rfl)
    | 6, _ => (gw_n [true, false, false, false, false, false, true, false, false, true, true] h rfl)
    | 7, _ => (gw_n [true, false, false, false, false, false, true, false, true, false] h rfl)
    | 8, _ => (gw_n [true, false, false, false, false, false, true, false, true, true, false] h rfl)
    | 9, _ => (gw_n [true, false, false, false, false, false, true, false, true, true, true] h rfl)
    | 10, _ => (gw_n [true, false, false, false, false, false, true, true, false, false] h rfl)
    | 11, _ => (gw_n [true, false, false, false, false, false, true, true, false, true, false] h rfl)
    | 12, _ => (gw_n [true, false, false, false, false, false, true, true, false, true, true] h rfl)
    | 13, _ => (gw_n [true, false, false, false, false, false, true, true, true, false, false] h rfl)
    | 14, _ => (gw_n [true, false, false, false, false, false, true, true, true, false, true] h rfl)
    | 15, _ => (gw_n [true, false, false, false, false, false, true, true, true, true, false] h rfl)
    | 16, _ => (gw_n [true, false, false, false, false, false, true, true, true, true, true] h rfl)
    | 17, _ => (gw_n [true, false, false, false, false, true, false, false, false, false] h rfl)
    | 18, _ => (gw_n [true, false, false, false, false, true, false, false, false, true, false] h rfl)
    | 19, _ => (gw_n [true, false, false, false, false, true, false, false, false, true, true] h rfl)
    | 20, _ => (gw_n [true, false, false, false, false, true, false, false, true, false] h rfl)
    | 21, _ => (gw_n [true, false, false, false, false, true, false, false, true, true, false] h rfl)
    | 22, _ => (gw_n [true, false, false, false, false, true, false, false, true, true, true] h rfl)
    | 23, _ => (gw_n [true, false, false, false, false, true, false, true, false, false] h rfl)
    | m + 24, hj => absurd hj (Nat.not_lt.mpr (Nat.le_add_left 24 m))) hA
theorem gw_s15 (h : narrow_1.before args s = true) (hts : ∀ w ∈ lw_tbl, w.before args s = true) (hA : ∀ a : Nat, a < s.heap.size → ¬ A a) : ∃ q, gw_S A s ("SubstituteDesk", 366, "a subject has no such property", 15) [97, 32, 115, 117, 98, 106, 101, 99, 116, 32, 104, 97, 115, 32, 110, 111, 32, 115, 117, 99, 104, 32, 112, 114, 111, 112, 101, 114, 116, 121] q :=
  gw_Sof (hts _ (gw_t5 65 rfl)) (by decide +kernel) (gw_n [true, false, false, false, false, true, true, true, true, false, false] h rfl) (gw_n [true, false, false, false, false, true, true, true, true, false, true] h rfl) (gw_n [true, false, false, false, false, true, true, true, true, true, false] h rfl) (gw_n [true, false, false, false, false, true, true, true, true, true, true] h rfl) (fun j hj => match j, hj with
    | 0, _ => (gw_n [true, false, false, false, true, false, false, false, false, false] h rfl)
    | 1, _ => (gw_n [true, false, false, false, true, false, false, false, false, true, false] h rfl)
    | 2, _ => (gw_n [true, false, false, false, true, false, false, false, false, true, true] h rfl)
    | 3, _ => (gw_n [true, false, false, false, true, false, false, false, true, false] h rfl)
    | 4, _ => (gw_n [true, false, false, false, true, false, false, false, true, true, false] h rfl)
    | 5, _ => (gw_n [true, false, false, false, true, false, false, false, true, true, true] h rfl)
    | 6, _ => (gw_n [true, false, false, false, true, false, false, true, false, false] h rfl)
    | 7, _ => (gw_n [true, false, false, false, true, false, false, true, false, true, false] h rfl)
    | 8, _ => (gw_n [true, false, false, false, true, false, false, true, false, true, true] h rfl)
    | 9, _ => (gw_n [true, false, false, false, true, false, false, true, true, false] h rfl)
    | 10, _ => (gw_n [true, false, false, false, true, false, false, true, true, true, false] h rfl)
    | 11, _ => (gw_n [true, false, false, false, true, false, false, true, true, true, true] h rfl)
    | 12, _ => (gw_n [true, false, false, false, true, false, true, false, false, false] h rfl)
    | 13, _ => (gw_n [true, false, false, false, true, false, true, false, false, true, false] h rfl)
    | 14, _ => (gw_n [true, false, false, false, true, false, true, false, false, true, true] h rfl)
    | 15, _ => (gw_n [true, false, false, false, true, false, true, false, true, false] h rfl)
    | 16, _ => (gw_n [true, false, false, false, true, false, true, false, true, true, false] h rfl)
    | 17, _ => (gw_n [true, false, false, false, true, false, true, false, true, true, true] h rfl)
    | 18, _ => (gw_n [true, false, false, false, true, false, true, true, false, false] h rfl)
    | 19, _ => (gw_n [true, false, false, false, true, false, true, true, false, true, false] h rfl)
    | 20, _ => (gw_n [true, false, false, false, true, false, true, true, false, true, true] h rfl)
    | 21, _ => (gw_n [true, false, false, false, true, false, true, true, true, false, false] h rfl)
    | 22, _ => (gw_n [true, false, false, false, true, false, true, true, true, false, true] h rfl)
    | 23, _ => (gw_n [true, false, false, false, true, false, true, true, true, true, false] h rfl)
    | 24, _ => (gw_n [true, false, false, false, true, false, true, true, true, true, true] h rfl)
    | 25, _ => (gw_n [true, false, false, false, true, true, false, false, false, false] h rfl)
    | 26, _ => (gw_n [true, false, false, false, true, true, false, false, false, true, false] h rfl)
    | 27, _ => (gw_n [true, false, false, false, true, true, false, false, false, true, true] h rfl)
    | 28, _ => (gw_n [true, false, false, false, true, true, false, false, true, false] h rfl)
    | 29, _ => (gw_n [true, false, false, false, true, true, false, false, true, true, false] h rfl)
    | m + 30, hj => absurd hj (Nat.not_lt.mpr (Nat.le_add_left 30 m))) hA
theorem gw_s16 (h : narrow_1.before args s = true) (hts : ∀ w ∈ lw_tbl, w.before args s = true) (hA : ∀ a : Nat, a < s.heap.size → ¬ A a) : ∃ q, gw_S A s ("SubstituteDesk", 437, "there is no such slot", 16) [116, 104, 101, 114, 101, 32, 105, 115, 32, 110, 111, 32, 115, 117, 99, 104, 32, 115, 108, 111, 116] q :=
  gw_Sof (hts _ (gw_t5 79 rfl)) (by decide +kernel) (gw_n [true, false, false, false, true, true, true, true, false, true, true] h rfl) (gw_n [true, false, false, false, true, true, true, true, true, false, false] h rfl) (gw_n [true, false, false, false, true, true, true, true, true, false, true] h rfl) (gw_n [true, false, false, false, true, true, true, true, true, true, false] h rfl) (fun j hj => match j, hj with
    | 0, _ => (gw_n [true, false, false, false, true, true, true, true, true, true, true] h rfl)
    | 1, _ => (gw_n [true, false, false, true, false, false, false, false, false, false] h rfl)
    | 2, _ => (gw_n [true, false, false, true, false, false, false, false, false, true, false] h rfl)
    | 3, _ => (gw_n [true, false, false, true, false, false, false, false, false, true, true] h rfl)
    | 4, _ => (gw_n [true, false, false, true, false, false, false, false, true, false] h rfl)
    | 5, _ => (gw_n [true, false, false, true, false, false, false, false, true, true, false] h rfl)
    | 6, _ => (gw_n [true, false, false, true, false, false, false, false, true, true, true] h rfl)
    | 7, _ => (gw_n [true, false, false, true, false, false, false, true, false, false] h rfl)
    | 8, _ => (gw_n [true, false, false, true, false, false, false, true, false, true, false] h rfl)
    | 9, _ => (gw_n [true, false, false, true, false, false, false, true, false, true, true] h rfl)
    | 10, _ => (gw_n [true, false, false, true, false, false, false, true, true, false] h rfl)
    | 11, _ => (gw_n [true, false, false, true, false, false, false, true, true, true, false] h rfl)
    | 12, _ => (gw_n [true, false, false, true, false, false, false, true, true, true, true] h rfl)
    | 13, _ => (gw_n [true, false, false, true, false, false, true, false, false, false] h rfl)
    | 14, _ => (gw_n [true, false, false, true, false, false, true, false, false, true, false] h rfl)
    | 15, _ => (gw_n [true, false, false, true, false, false, true, false, false, true, true] h rfl)
    | 16, _ => (gw_n [true, false, false, true, false, false, true, false, true, false] h rfl)
    | 17, _ => (gw_n [true, false, false, true, false, false, true, false, true, true, false] h rfl)
    | 18, _ => (gw_n [true, false, false, true, false, false, true, false, true, true, true] h rfl)
    | 19, _ => (gw_n [true, false, false, true, false, false, true, true, false, false] h rfl)
    | 20, _ => (gw_n [true, false, false, true, false, false, true, true, false, true, false] h rfl)
    | m + 21, hj => absurd hj (Nat.not_lt.mpr (Nat.le_add_left 21 m))) hA
theorem gw_s17 (h : narrow_1.before args s = true) (hts : ∀ w ∈ lw_tbl, w.before args s = true) (hA : ∀ a : Nat, a < s.heap.size → ¬ A a) : ∃ q, gw_S A s ("SubstituteDesk", 378, "there is no such kind of rooms", 17) [116, 104, 101, 114, 101, 32, 105, 115, 32, 110, 111, 32, 115, 117, 99, 104, 32, 107, 105, 110, 100, 32, 111, 102, 32, 114, 111, 111, 109, 115] q :=
  gw_Sof (hts _ (gw_t5 86 rfl)) (by decide +kernel) (gw_n [true, false, false, true, false, true, false, true, true, true, true] h rfl) (gw_n [true, false, false, true, false, true, true, false, false, false] h rfl) (gw_n [true, false, false, true, false, true, true, false, false, true, false] h rfl) (gw_n [true, false, false, true, false, true, true, false, false, true, true] h rfl) (fun j hj => match j, hj with
    | 0, _ => (gw_n [true, false, false, true, false, true, true, false, true, false] h rfl)
    | 1, _ => (gw_n [true, false, false, true, false, true, true, false, true, true, false] h rfl)
    | 2, _ => (gw_n [true, false, false, true, false, true, true, false, true, true, true] h rfl)
    | 3, _ => (gw_n [true, false, false, true, false, true, true, true, false, false] h rfl)
    | 4, _ => (gw_n [true, false, false, true, false, true, true, true, false, true, false] h rfl)
    | 5, _ => (gw_n [true, false, false, true, false, true, true, true, false, true, true] h rfl)
    | 6, _ => (gw_n [true, false, false, true, false, true, true, true, true, false, false] h rfl)
    | 7, _ => (gw_n [true, false, false, true, false, true, true, true, true, false, true] h rfl)
    | 8, _ => (gw_n [true, false, false, true, false, true, true, true, true, true, false] h rfl)
    | 9, _ => (gw_n [true, false, false, true, false, true, true, true, true, true, true] h rfl)
    | 10, _ => (gw_n [true, false, false, true, true, false, false, false, false, false] h rfl)
    | 11, _ => (gw_n [true, false, false, true, true, false, false, false, false, true, false] h rfl)
    | 12, _ => (gw_n [true, false, false, true, true, false, false, false, false, true, true] h rfl)
    | 13, _ => (gw_n [true, false, false, true, true, false, false, false, true, false] h rfl)
    | 14, _ => (gw_n [true, false, false, true, true, false, false, false, true, true, false] h rfl)
    | 15, _ => (gw_n [true, false, false, true, true, false, false, false, true, true, true] h rfl)
    | 16, _ => (gw_n [true, false, false, true, true, false, false, true, false, false] h rfl)
    | 17, _ => (gw_n [true, false, false, true, true, false, false, true, false, true, false] h rfl)
    | 18, _ => (gw_n [true, false, false, true, true, false, false, true, false, true, true] h rfl)
    | 19, _ => (gw_n [true, false, false, true, true, false, false, true, true, false] h rfl)
    | 20, _ => (gw_n [true, false, false, true, true, false, false, true, true, true, false] h rfl)
    | 21, _ => (gw_n [true, false, false, true, true, false, false, true, true, true, true] h rfl)
    | 22, _ => (gw_n [true, false, false, true, true, false, true, false, false, false] h rfl)
    | 23, _ => (gw_n [true, false, false, true, true, false, true, false, false, true, false] h rfl)
    | 24, _ => (gw_n [true, false, false, true, true, false, true, false, false, true, true] h rfl)
    | 25, _ => (gw_n [true, false, false, true, true, false, true, false, true, false] h rfl)
    | 26, _ => (gw_n [true, false, false, true, true, false, true, false, true, true, false] h rfl)
    | 27, _ => (gw_n [true, false, false, true, true, false, true, false, true, true, true] h rfl)
    | 28, _ => (gw_n [true, false, false, true, true, false, true, true, false, false] h rfl)
    | 29, _ => (gw_n [true, false, false, true, true, false, true, true, false, true, false] h rfl)
    | m + 30, hj => absurd hj (Nat.not_lt.mpr (Nat.le_add_left 30 m))) hA
theorem gw_s18 (h : narrow_1.before args s = true) (hts : ∀ w ∈ lw_tbl, w.before args s = true) (hA : ∀ a : Nat, a < s.heap.size → ¬ A a) : ∃ q, gw_S A s ("SubstituteDesk", 444, "there is no such class", 18) [116, 104, 101, 114, 101, 32, 105, 115, 32, 110, 111, 32, 115, 117, 99, 104, 32, 99, 108, 97, 115, 115] q :=
  gw_Sof (hts _ (gw_t5 104 rfl)) (by decide +kernel) (gw_n [true, false, false, true, true, true, true, false, false, false] h rfl) (gw_n [true, false, false, true, true, true, true, false, false, true, false] h rfl) (gw_n [true, false, false, true, true, true, true, false, false, true, true] h rfl) (gw_n [true, false, false, true, true, true, true, false, true, false] h rfl) (fun j hj => match j, hj with
    | 0, _ => (gw_n [true, false, false, true, true, true, true, false, true, true, false] h rfl)
    | 1, _ => (gw_n [true, false, false, true, true, true, true, false, true, true, true] h rfl)
    | 2, _ => (gw_n [true, false, false, true, true, true, true, true, false, false] h rfl)
    | 3, _ => (gw_n [true, false, false, true, true, true, true, true, false, true, false] h rfl)
    | 4, _ => (gw_n [true, false, false, true, true, true, true, true, false, true, true] h rfl)
    | 5, _ => (gw_n [true, false, false, true, true, true, true, true, true, false, false] h rfl)
    | 6, _ => (gw_n [true, false, false, true, true, true, true, true, true, false, true] h rfl)
    | 7, _ => (gw_n [true, false, false, true, true, true, true, true, true, true, false] h rfl)
    | 8, _ => (gw_n [true, false, false, true, true, true, true, true, true, true, true] h rfl)
    | 9, _ => (gw_n [true, false, true, false, false, false, false, false, false, false] h rfl)
    | 10, _ => (gw_n [true, false, true, false, false, false, false, false, false, true, false] h rfl)
    | 11, _ => (gw_n [true, false, true, false, false, false, false, false, false, true, true] h rfl)
    | 12, _ => (gw_n [true, false, true, false, false, false, false, false, true, false] h rfl)
    | 13, _ => (gw_n [true, false, true, false, false, false, false, false, true, true, false] h rfl)
    | 14, _ => (gw_n [true, false, true, false, false, false, false, false, true, true, true] h rfl)
    | 15, _ => (gw_n [true, false, true, false, false, false, false, true, false, false] h rfl)
    | 16, _ => (gw_n [true, false, true, false, false, false, false, true, false, true, false] h rfl)
    | 17, _ => (gw_n [true, false, true, false, false, false, false, true, false, true, true] h rfl)
    | 18, _ => (gw_n [true, false, true, false, false, false, false, true, true, false] h rfl)
    | 19, _ => (gw_n [true, false, true, false, false, false, false, true, true, true, false] h rfl)
    | 20, _ => (gw_n [true, false, true, false, false, false, false, true, true, true, true] h rfl)
    | 21, _ => (gw_n [true, false, true, false, false, false, true, false, false, false] h rfl)
    | m + 22, hj => absurd hj (Nat.not_lt.mpr (Nat.le_add_left 22 m))) hA
theorem gw_s19 (h : narrow_1.before args s = true) (hts : ∀ w ∈ lw_tbl, w.before args s = true) (hA : ∀ a : Nat, a < s.heap.size → ¬ A a) : ∃ q, gw_S A s ("SubstituteDesk", 414, "there is nothing to undo", 19) [116, 104, 101, 114, 101, 32, 105, 115, 32, 110, 111, 116, 104, 105, 110, 103, 32, 116, 111, 32, 117, 110, 100, 111] q :=
  gw_Sof (hts _ (gw_t5 135 rfl)) (by decide +kernel) (gw_n [true, false, true, false, false, true, false, true, false, false] h rfl) (gw_n [true, false, true, false, false, true, false, true, false, true, false] h rfl) (gw_n [true, false, true, false, false, true, false, true, false, true, true] h rfl) (gw_n [true, false, true, false, false, true, false, true, true, false] h rfl) (fun j hj => match j, hj with
    | 0, _ => (gw_n [true, false, true, false, false, true, false, true, true, true, false] h rfl)
    | 1, _ => (gw_n [true, false, true, false, false, true, false, true, true, true, true] h rfl)
    | 2, _ => (gw_n [true, false, true, false, false, true, true, false, false, false] h rfl)
    | 3, _ => (gw_n [true, false, true, false, false, true, true, false, false, true, false] h rfl)
    | 4, _ => (gw_n [true, false, true, false, false, true, true, false, false, true, true] h rfl)
    | 5, _ => (gw_n [true, false, true, false, false, true, true, false, true, false] h rfl)
    | 6, _ => (gw_n [true, false, true, false, false, true, true, false, true, true, false] h rfl)
    | 7, _ => (gw_n [true, false, true, false, false, true, true, false, true, true, true] h rfl)
    | 8, _ => (gw_n [true, false, true, false, false, true, true, true, false, false] h rfl)
    | 9, _ => (gw_n [true, false, true, false, false, true, true, true, false, true, false] h rfl)
    | 10, _ => (gw_n [true, false, true, false, false, true, true, true, false, true, true] h rfl)
    | 11, _ => (gw_n [true, false, true, false, false, true, true, true, true, false, false] h rfl)
    | 12, _ => (gw_n [true, false, true, false, false, true, true, true, true, false, true] h rfl)
    | 13, _ => (gw_n [true, false, true, false, false, true, true, true, true, true, false] h rfl)
    | 14, _ => (gw_n [true, false, true, false, false, true, true, true, true, true, true] h rfl)
    | 15, _ => (gw_n [true, false, true, false, true, false, false, false, false, false] h rfl)
    | 16, _ => (gw_n [true, false, true, false, true, false, false, false, false, true, false] h rfl)
    | 17, _ => (gw_n [true, false, true, false, true, false, false, false, false, true, true] h rfl)
    | 18, _ => (gw_n [true, false, true, false, true, false, false, false, true, false] h rfl)
    | 19, _ => (gw_n [true, false, true, false, true, false, false, false, true, true, false] h rfl)
    | 20, _ => (gw_n [true, false, true, false, true, false, false, false, true, true, true] h rfl)
    | 21, _ => (gw_n [true, false, true, false, true, false, false, true, false, false] h rfl)
    | 22, _ => (gw_n [true, false, true, false, true, false, false, true, false, true, false] h rfl)
    | 23, _ => (gw_n [true, false, true, false, true, false, false, true, false, true, true] h rfl)
    | m + 24, hj => absurd hj (Nat.not_lt.mpr (Nat.le_add_left 24 m))) hA
theorem gw_s20 (h : narrow_1.before args s = true) (hts : ∀ w ∈ lw_tbl, w.before args s = true) (hA : ∀ a : Nat, a < s.heap.size → ¬ A a) : ∃ q, gw_S A s ("SubstituteDesk", 101, "the text would be too long", 20) [116, 104, 101, 32, 116, 101, 120, 116, 32, 119, 111, 117, 108, 100, 32, 98, 101, 32, 116, 111, 111, 32, 108, 111, 110, 103] q :=
  gw_Sof (hts _ (gw_t5 166 rfl)) (by decide +kernel) (gw_n [true, false, true, false, true, true, false, false, true, false] h rfl) (gw_n [true, false, true, false, true, true, false, false, true, true, false] h rfl) (gw_n [true, false, true, false, true, true, false, false, true, true, true] h rfl) (gw_n [true, false, true, false, true, true, false, true, false, false] h rfl) (fun j hj => match j, hj with
    | 0, _ => (gw_n [true, false, true, false, true, true, false, true, false, true, false] h rfl)
    | 1, _ => (gw_n [true, false, true, false, true, true, false, true, false, true, true] h rfl)
    | 2, _ => (gw_n [true, false, true, false, true, true, false, true, true, false] h rfl)
    | 3, _ => (gw_n [true, false, true, false, true, true, false, true, true, true, false] h rfl)
    | 4, _ => (gw_n [true, false, true, false, true, true, false, true, true, true, true] h rfl)
    | 5, _ => (gw_n [true, false, true, false, true, true, true, false, false, false] h rfl)
    | 6, _ => (gw_n [true, false, true, false, true, true, true, false, false, true, false] h rfl)
    | 7, _ => (gw_n [true, false, true, false, true, true, true, false, false, true, true] h rfl)
    | 8, _ => (gw_n [true, false, true, false, true, true, true, false, true, false] h rfl)
    | 9, _ => (gw_n [true, false, true, false, true, true, true, false, true, true, false] h rfl)
    | 10, _ => (gw_n [true, false, true, false, true, true, true, false, true, true, true] h rfl)
    | 11, _ => (gw_n [true, false, true, false, true, true, true, true, false, false] h rfl)
    | 12, _ => (gw_n [true, false, true, false, true, true, true, true, false, true, false] h rfl)
    | 13, _ => (gw_n [true, false, true, false, true, true, true, true, false, true, true] h rfl)
    | 14, _ => (gw_n [true, false, true, false, true, true, true, true, true, false, false] h rfl)
    | 15, _ => (gw_n [true, false, true, false, true, true, true, true, true, false, true] h rfl)
    | 16, _ => (gw_n [true, false, true, false, true, true, true, true, true, true, false] h rfl)
    | 17, _ => (gw_n [true, false, true, false, true, true, true, true, true, true, true] h rfl)
    | 18, _ => (gw_n [true, false, true, true, false, false, false, false, false, false] h rfl)
    | 19, _ => (gw_n [true, false, true, true, false, false, false, false, false, true, false] h rfl)
    | 20, _ => (gw_n [true, false, true, true, false, false, false, false, false, true, true] h rfl)
    | 21, _ => (gw_n [true, false, true, true, false, false, false, false, true, false] h rfl)
    | 22, _ => (gw_n [true, false, true, true, false, false, false, false, true, true, false] h rfl)
    | 23, _ => (gw_n [true, false, true, true, false, false, false, false, true, true, true] h rfl)
    | 24, _ => (gw_n [true, false, true, true, false, false, false, true, false, false] h rfl)
    | 25, _ => (gw_n [true, false, true, true, false, false, false, true, false, true, false] h rfl)
    | m + 26, hj => absurd hj (Nat.not_lt.mpr (Nat.le_add_left 26 m))) hA
theorem gw_s21 (h : narrow_1.before args s = true) (hts : ∀ w ∈ lw_tbl, w.before args s = true) (hA : ∀ a : Nat, a < s.heap.size → ¬ A a) : ∃ q, gw_S A s ("SubstituteDesk", 112, "the text has no such length", 21) [116, 104, 101, 32, 116, 101, 120, 116, 32, 104, 97, 115, 32, 110, 111, 32, 115, 117, 99, 104, 32, 108, 101, 110, 103, 116, 104] q :=
  gw_Sof (hts _ (gw_t5 176 rfl)) (by decide +kernel) (gw_n [true, false, true, true, false, true, false, false, true, false] h rfl) (gw_n [true, false, true, true, false, true, false, false, true, true, false] h rfl) (gw_n [true, false, true, true, false, true, false, false, true, true, true] h rfl) (gw_n [true, false, true, true, false, true, false, true, false, false] h rfl) (fun j hj => match j, hj with
    | 0, _ => (gw_n [true, false, true, true, false, true, false, true, false, true, false] h rfl)
    | 1, _ => (gw_n [true, false, true, true, false, true, false, true, false, true, true] h rfl)
    | 2, _ => (gw_n [true, false, true, true, false, true, false, true, true, false] h rfl)
    | 3, _ => (gw_n [true, false, true, true, false, true, false, true, true, true, false] h rfl)
    | 4, _ => (gw_n [true, false, true, true, false, true, false, true, true, true, true] h rfl)
    | 5, _ => (gw_n [true, false, true, true, false, true, true, false, false, false] h rfl)
    | 6, _ => (gw_n [true, false, true, true, false, true, true, false, false, true, false] h rfl)
    | 7, _ => (gw_n [true, false, true, true, false, true, true, false, false, true, true] h rfl)
    | 8, _ => (gw_n [true, false, true, true, false, true, true, false, true, false] h rfl)
    | 9, _ => (gw_n [true, false, true, true, false, true, true, false, true, true, false] h rfl)
    | 10, _ => (gw_n [true, false, true, true, false, true, true, false, true, true, true] h rfl)
    | 11, _ => (gw_n [true, false, true, true, false, true, true, true, false, false] h rfl)
    | 12, _ => (gw_n [true, false, true, true, false, true, true, true, false, true, false] h rfl)
    | 13, _ => (gw_n [true, false, true, true, false, true, true, true, false, true, true] h rfl)
    | 14, _ => (gw_n [true, false, true, true, false, true, true, true, true, false, false] h rfl)
    | 15, _ => (gw_n [true, false, true, true, false, true, true, true, true, false, true] h rfl)
    | 16, _ => (gw_n [true, false, true, true, false, true, true, true, true, true, false] h rfl)
    | 17, _ => (gw_n [true, false, true, true, false, true, true, true, true, true, true] h rfl)
    | 18, _ => (gw_n [true, false, true, true, true, false, false, false, false, false] h rfl)
    | 19, _ => (gw_n [true, false, true, true, true, false, false, false, false, true, false] h rfl)
    | 20, _ => (gw_n [true, false, true, true, true, false, false, false, false, true, true] h rfl)
    | 21, _ => (gw_n [true, false, true, true, true, false, false, false, true, false] h rfl)
    | 22, _ => (gw_n [true, false, true, true, true, false, false, false, true, true, false] h rfl)
    | 23, _ => (gw_n [true, false, true, true, true, false, false, false, true, true, true] h rfl)
    | 24, _ => (gw_n [true, false, true, true, true, false, false, true, false, false] h rfl)
    | 25, _ => (gw_n [true, false, true, true, true, false, false, true, false, true, false] h rfl)
    | 26, _ => (gw_n [true, false, true, true, true, false, false, true, false, true, true] h rfl)
    | m + 27, hj => absurd hj (Nat.not_lt.mpr (Nat.le_add_left 27 m))) hA
theorem gw_s22 (h : narrow_1.before args s = true) (hts : ∀ w ∈ lw_tbl, w.before args s = true) (hA : ∀ a : Nat, a < s.heap.size → ¬ A a) : ∃ q, gw_S A s ("SubstituteDesk", 446, "it is refused", 22) [105, 116, 32, 105, 115, 32, 114, 101, 102, 117, 115, 101, 100] q :=
  gw_Sof (hts _ (gw_t5 194 rfl)) (by decide +kernel) (gw_n [true, false, true, true, true, true, false, false, true, true, true] h rfl) (gw_n [true, false, true, true, true, true, false, true, false, false] h rfl) (gw_n [true, false, true, true, true, true, false, true, false, true, false] h rfl) (gw_n [true, false, true, true, true, true, false, true, false, true, true] h rfl) (fun j hj => match j, hj with
    | 0, _ => (gw_n [true, false, true, true, true, true, false, true, true, false] h rfl)
    | 1, _ => (gw_n [true, false, true, true, true, true, false, true, true, true, false] h rfl)
    | 2, _ => (gw_n [true, false, true, true, true, true, false, true, true, true, true] h rfl)
    | 3, _ => (gw_n [true, false, true, true, true, true, true, false, false, false] h rfl)
    | 4, _ => (gw_n [true, false, true, true, true, true, true, false, false, true, false] h rfl)
    | 5, _ => (gw_n [true, false, true, true, true, true, true, false, false, true, true] h rfl)
    | 6, _ => (gw_n [true, false, true, true, true, true, true, false, true, false] h rfl)
    | 7, _ => (gw_n [true, false, true, true, true, true, true, false, true, true, false] h rfl)
    | 8, _ => (gw_n [true, false, true, true, true, true, true, false, true, true, true] h rfl)
    | 9, _ => (gw_n [true, false, true, true, true, true, true, true, false, false] h rfl)
    | 10, _ => (gw_n [true, false, true, true, true, true, true, true, false, true, false] h rfl)
    | 11, _ => (gw_n [true, false, true, true, true, true, true, true, false, true, true] h rfl)
    | 12, _ => (gw_n [true, false, true, true, true, true, true, true, true, false, false] h rfl)
    | m + 13, hj => absurd hj (Nat.not_lt.mpr (Nat.le_add_left 13 m))) hA
theorem gw_s23 (h : narrow_1.before args s = true) (hts : ∀ w ∈ lw_tbl, w.before args s = true) (hA : ∀ a : Nat, a < s.heap.size → ¬ A a) : ∃ q, gw_S A s ("SubstituteDesk", 353, "a room has no such property", 23) [97, 32, 114, 111, 111, 109, 32, 104, 97, 115, 32, 110, 111, 32, 115, 117, 99, 104, 32, 112, 114, 111, 112, 101, 114, 116, 121] q :=
  gw_Sof (hts _ (gw_t6 46 rfl)) (by decide +kernel) (gw_n [true, true, false, false, false, false, true, true, true, true, true] h rfl) (gw_n [true, true, false, false, false, true, false, false, false, false] h rfl) (gw_n [true, true, false, false, false, true, false, false, false, true] h rfl) (gw_n [true, true, false, false, false, true, false, false, true, false] h rfl) (fun j hj => match j, hj with
    | 0, _ => (gw_n [true, true, false, false, false, true, false, false, true, true, false] h rfl)
    | 1, _ => (gw_n [true, true, false, false, false, true, false, false, true, true, true] h rfl)
    | 2, _ => (gw_n [true, true, false, false, false, true, false, true, false, false] h rfl)
    | 3, _ => (gw_n [true, true, false, false, false, true, false, true, false, true] h rfl)
    | 4, _ => (gw_n [true, true, false, false, false, true, false, true, true, false] h rfl)
    | 5, _ => (gw_n [true, true, false, false, false, true, false, true, true, true, false] h rfl)
    | 6, _ => (gw_n [true, true, false, false, false, true, false, true, true, true, true] h rfl)
    | 7, _ => (gw_n [true, true, false, false, false, true, true, false, false, false] h rfl)
    | 8, _ => (gw_n [true, true, false, false, false, true, true, false, false, true] h rfl)
    | 9, _ => (gw_n [true, true, false, false, false, true, true, false, true, false] h rfl)
    | 10, _ => (gw_n [true, true, false, false, false, true, true, false, true, true, false] h rfl)
    | 11, _ => (gw_n [true, true, false, false, false, true, true, false, true, true, true] h rfl)
    | 12, _ => (gw_n [true, true, false, false, false, true, true, true, false, false] h rfl)
    | 13, _ => (gw_n [true, true, false, false, false, true, true, true, false, true, false] h rfl)
    | 14, _ => (gw_n [true, true, false, false, false, true, true, true, false, true, true] h rfl)
    | 15, _ => (gw_n [true, true, false, false, false, true, true, true, true, false] h rfl)
    | 16, _ => (gw_n [true, true, false, false, false, true, true, true, true, true, false] h rfl)
    | 17, _ => (gw_n [true, true, false, false, false, true, true, true, true, true, true] h rfl)
    | 18, _ => (gw_n [true, true, false, false, true, false, false, false, false, false] h rfl)
    | 19, _ => (gw_n [true, true, false, false, true, false, false, false, false, true] h rfl)
    | 20, _ => (gw_n [true, true, false, false, true, false, false, false, true, false] h rfl)
    | 21, _ => (gw_n [true, true, false, false, true, false, false, false, true, true, false] h rfl)
    | 22, _ => (gw_n [true, true, false, false, true, false, false, false, true, true, true] h rfl)
    | 23, _ => (gw_n [true, true, false, false, true, false, false, true, false, false] h rfl)
    | 24, _ => (gw_n [true, true, false, false, true, false, false, true, false, true] h rfl)
    | 25, _ => (gw_n [true, true, false, false, true, false, false, true, true, false] h rfl)
    | 26, _ => (gw_n [true, true, false, false, true, false, false, true, true, true, false] h rfl)
    | m + 27, hj => absurd hj (Nat.not_lt.mpr (Nat.le_add_left 27 m))) hA
theorem gw_s24 (h : narrow_1.before args s = true) (hts : ∀ w ∈ lw_tbl, w.before args s = true) (hA : ∀ a : Nat, a < s.heap.size → ¬ A a) : ∃ q, gw_S A s ("SubstituteDeskLaw", 94, "grid 2 3;subject 0;subject 1;teacher 1 0;teacher 2 0 1;teacher 1 1;teacher 9 0 1;room 0;room 1;room 0;classes 2;lesson 0 0 0 0 0;lesson 0 1 1 2 1;lesson 1 0 1 1 1;lesson 1 1 0 0 0;lesson 3 0 0 1 2;lesson 3 1 1 2 1;lesson 4 1 0 3 0;", 24) [103, 114, 105, 100, 32, 50, 32, 51, 59, 115, 117, 98, 106, 101, 99, 116, 32, 48, 59, 115, 117, 98, 106, 101, 99, 116, 32, 49, 59, 116, 101, 97, 99, 104, 101, 114, 32, 49, 32, 48, 59, 116, 101, 97, 99, 104, 101, 114, 32, 50, 32, 48, 32, 49, 59, 116, 101, 97, 99, 104, 101, 114, 32, 49, 32, 49, 59, 116, 101, 97, 99, 104, 101, 114, 32, 57, 32, 48, 32, 49, 59, 114, 111, 111, 109, 32, 48, 59, 114, 111, 111, 109, 32, 49, 59, 114, 111, 111, 109, 32, 48, 59, 99, 108, 97, 115, 115, 101, 115, 32, 50, 59, 108, 101, 115, 115, 111, 110, 32, 48, 32, 48, 32, 48, 32, 48, 32, 48, 59, 108, 101, 115, 115, 111, 110, 32, 48, 32, 49, 32, 49, 32, 50, 32, 49, 59, 108, 101, 115, 115, 111, 110, 32, 49, 32, 48, 32, 49, 32, 49, 32, 49, 59, 108, 101, 115, 115, 111, 110, 32, 49, 32, 49, 32, 48, 32, 48, 32, 48, 59, 108, 101, 115, 115, 111, 110, 32, 51, 32, 48, 32, 48, 32, 49, 32, 50, 59, 108, 101, 115, 115, 111, 110, 32, 51, 32, 49, 32, 49, 32, 50, 32, 49, 59, 108, 101, 115, 115, 111, 110, 32, 52, 32, 49, 32, 48, 32, 51, 32, 48, 59] q :=
  gw_Sof (hts _ (gw_t6 71 rfl)) (by decide +kernel) (gw_n [true, true, false, false, true, true, true, false, false, true] h rfl) (gw_n [true, true, false, false, true, true, true, false, true, false] h rfl) (gw_n [true, true, false, false, true, true, true, false, true, true, false] h rfl) (gw_n [true, true, false, false, true, true, true, false, true, true, true] h rfl) (fun j hj => match j, hj with
    | 0, _ => (gw_n [true, true, false, false, true, true, true, true, false, false] h rfl)
    | 1, _ => (gw_n [true, true, false, false, true, true, true, true, false, true, false] h rfl)
    | 2, _ => (gw_n [true, true, false, false, true, true, true, true, false, true, true] h rfl)
    | 3, _ => (gw_n [true, true, false, false, true, true, true, true, true, false] h rfl)
    | 4, _ => (gw_n [true, true, false, false, true, true, true, true, true, true, false] h rfl)
    | 5, _ => (gw_n [true, true, false, false, true, true, true, true, true, true, true] h rfl)
    | 6, _ => (gw_n [true, true, false, true, false, false, false, false, false, false] h rfl)
    | 7, _ => (gw_n [true, true, false, true, false, false, false, false, false, true] h rfl)
    | 8, _ => (gw_n [true, true, false, true, false, false, false, false, true, false] h rfl)
    | 9, _ => (gw_n [true, true, false, true, false, false, false, false, true, true, false] h rfl)
    | 10, _ => (gw_n [true, true, false, true, false, false, false, false, true, true, true] h rfl)
    | 11, _ => (gw_n [true, true, false, true, false, false, false, true, false, false] h rfl)
    | 12, _ => (gw_n [true, true, false, true, false, false, false, true, false, true] h rfl)
    | 13, _ => (gw_n [true, true, false, true, false, false, false, true, true, false] h rfl)
    | 14, _ => (gw_n [true, true, false, true, false, false, false, true, true, true, false] h rfl)
    | 15, _ => (gw_n [true, true, false, true, false, false, false, true, true, true, true] h rfl)
    | 16, _ => (gw_n [true, true, false, true, false, false, true, false, false, false] h rfl)
    | 17, _ => (gw_n [true, true, false, true, false, false, true, false, false, true] h rfl)
    | 18, _ => (gw_n [true, true, false, true, false, false, true, false, true, false] h rfl)
    | 19, _ => (gw_n [true, true, false, true, false, false, true, false, true, true, false] h rfl)
    | 20, _ => (gw_n [true, true, false, true, false, false, true, false, true, true, true] h rfl)
    | 21, _ => (gw_n [true, true, false, true, false, false, true, true, false, false] h rfl)
    | 22, _ => (gw_n [true, true, false, true, false, false, true, true, false, true] h rfl)
    | 23, _ => (gw_n [true, true, false, true, false, false, true, true, true, false] h rfl)
    | 24, _ => (gw_n [true, true, false, true, false, false, true, true, true, true, false] h rfl)
    | 25, _ => (gw_n [true, true, false, true, false, false, true, true, true, true, true] h rfl)
    | 26, _ => (gw_n [true, true, false, true, false, true, false, false, false, false] h rfl)
    | 27, _ => (gw_n [true, true, false, true, false, true, false, false, false, true] h rfl)
    | 28, _ => (gw_n [true, true, false, true, false, true, false, false, true, false] h rfl)
    | 29, _ => (gw_n [true, true, false, true, false, true, false, false, true, true, false] h rfl)
    | 30, _ => (gw_n [true, true, false, true, false, true, false, false, true, true, true] h rfl)
    | 31, _ => (gw_n [true, true, false, true, false, true, false, true, false, false] h rfl)
    | 32, _ => (gw_n [true, true, false, true, false, true, false, true, false, true] h rfl)
    | 33, _ => (gw_n [true, true, false, true, false, true, false, true, true, false] h rfl)
    | 34, _ => (gw_n [true, true, false, true, false, true, false, true, true, true, false] h rfl)
    | 35, _ => (gw_n [true, true, false, true, false, true, false, true, true, true, true] h rfl)
    | 36, _ => (gw_n [true, true, false, true, false, true, true, false, false, false] h rfl)
    | 37, _ => (gw_n [true, true, false, true, false, true, true, false, false, true] h rfl)
    | 38, _ => (gw_n [true, true, false, true, false, true, true, false, true, false] h rfl)
    | 39, _ => (gw_n [true, true, false, true, false, true, true, false, true, true, false] h rfl)
    | 40, _ => (gw_n [true, true, false, true, false, true, true, false, true, true, true] h rfl)
    | 41, _ => (gw_n [true, true, false, true, false, true, true, true, false, false] h rfl)
    | 42, _ => (gw_n [true, true, false, true, false, true, true, true, false, true, false] h rfl)
    | 43, _ => (gw_n [true, true, false, true, false, true, true, true, false, true, true] h rfl)
    | 44, _ => (gw_n [true, true, false, true, false, true, true, true, true, false] h rfl)
    | 45, _ => (gw_n [true, true, false, true, false, true, true, true, true, true, false] h rfl)
    | 46, _ => (gw_n [true, true, false, true, false, true, true, true, true, true, true] h rfl)
    | 47, _ => (gw_n [true, true, false, true, true, false, false, false, false, false] h rfl)
    | 48, _ => (gw_n [true, true, false, true, true, false, false, false, false, true] h rfl)
    | 49, _ => (gw_n [true, true, false, true, true, false, false, false, true, false] h rfl)
    | 50, _ => (gw_n [true, true, false, true, true, false, false, false, true, true, false] h rfl)
    | 51, _ => (gw_n [true, true, false, true, true, false, false, false, true, true, true] h rfl)
    | 52, _ => (gw_n [true, true, false, true, true, false, false, true, false, false] h rfl)
    | 53, _ => (gw_n [true, true, false, true, true, false, false, true, false, true] h rfl)
    | 54, _ => (gw_n [true, true, false, true, true, false, false, true, true, false] h rfl)
    | 55, _ => (gw_n [true, true, false, true, true, false, false, true, true, true, false] h rfl)
    | 56, _ => (gw_n [true, true, false, true, true, false, false, true, true, true, true] h rfl)
    | 57, _ => (gw_n [true, true, false, true, true, false, true, false, false, false] h rfl)
    | 58, _ => (gw_n [true, true, false, true, true, false, true, false, false, true] h rfl)
    | 59, _ => (gw_n [true, true, false, true, true, false, true, false, true, false] h rfl)
    | 60, _ => (gw_n [true, true, false, true, true, false, true, false, true, true, false] h rfl)
    | 61, _ => (gw_n [true, true, false, true, true, false, true, false, true, true, true] h rfl)
    | 62, _ => (gw_n [true, true, false, true, true, false, true, true, false, false] h rfl)
    | 63, _ => (gw_n [true, true, false, true, true, false, true, true, false, true, false] h rfl)
    | 64, _ => (gw_n [true, true, false, true, true, false, true, true, false, true, true] h rfl)
    | 65, _ => (gw_n [true, true, false, true, true, false, true, true, true, false] h rfl)
    | 66, _ => (gw_n [true, true, false, true, true, false, true, true, true, true, false] h rfl)
    | 67, _ => (gw_n [true, true, false, true, true, false, true, true, true, true, true] h rfl)
    | 68, _ => (gw_n [true, true, false, true, true, true, false, false, false, false] h rfl)
    | 69, _ => (gw_n [true, true, false, true, true, true, false, false, false, true] h rfl)
    | 70, _ => (gw_n [true, true, false, true, true, true, false, false, true, false] h rfl)
    | 71, _ => (gw_n [true, true, false, true, true, true, false, false, true, true, false] h rfl)
    | 72, _ => (gw_n [true, true, false, true, true, true, false, false, true, true, true] h rfl)
    | 73, _ => (gw_n [true, true, false, true, true, true, false, true, false, false] h rfl)
    | 74, _ => (gw_n [true, true, false, true, true, true, false, true, false, true] h rfl)
    | 75, _ => (gw_n [true, true, false, true, true, true, false, true, true, false] h rfl)
    | 76, _ => (gw_n [true, true, false, true, true, true, false, true, true, true, false] h rfl)
    | 77, _ => (gw_n [true, true, false, true, true, true, false, true, true, true, true] h rfl)
    | 78, _ => (gw_n [true, true, false, true, true, true, true, false, false, false] h rfl)
    | 79, _ => (gw_n [true, true, false, true, true, true, true, false, false, true] h rfl)
    | 80, _ => (gw_n [true, true, false, true, true, true, true, false, true, false] h rfl)
    | 81, _ => (gw_n [true, true, false, true, true, true, true, false, true, true, false] h rfl)
    | 82, _ => (gw_n [true, true, false, true, true, true, true, false, true, true, true] h rfl)
    | 83, _ => (gw_n [true, true, false, true, true, true, true, true, false, false] h rfl)
    | 84, _ => (gw_n [true, true, false, true, true, true, true, true, false, true, false] h rfl)
    | 85, _ => (gw_n [true, true, false, true, true, true, true, true, false, true, true] h rfl)
    | 86, _ => (gw_n [true, true, false, true, true, true, true, true, true, false] h rfl)
    | 87, _ => (gw_n [true, true, false, true, true, true, true, true, true, true, false] h rfl)
    | 88, _ => (gw_n [true, true, false, true, true, true, true, true, true, true, true] h rfl)
    | 89, _ => (gw_n [true, true, true, false, false, false, false, false, false, false] h rfl)
    | 90, _ => (gw_n [true, true, true, false, false, false, false, false, false, true] h rfl)
    | 91, _ => (gw_n [true, true, true, false, false, false, false, false, true, false] h rfl)
    | 92, _ => (gw_n [true, true, true, false, false, false, false, false, true, true, false] h rfl)
    | 93, _ => (gw_n [true, true, true, false, false, false, false, false, true, true, true] h rfl)
    | 94, _ => (gw_n [true, true, true, false, false, false, false, true, false, false] h rfl)
    | 95, _ => (gw_n [true, true, true, false, false, false, false, true, false, true] h rfl)
    | 96, _ => (gw_n [true, true, true, false, false, false, false, true, true, false] h rfl)
    | 97, _ => (gw_n [true, true, true, false, false, false, false, true, true, true, false] h rfl)
    | 98, _ => (gw_n [true, true, true, false, false, false, false, true, true, true, true] h rfl)
    | 99, _ => (gw_n [true, true, true, false, false, false, true, false, false, false] h rfl)
    | 100, _ => (gw_n [true, true, true, false, false, false, true, false, false, true] h rfl)
    | 101, _ => (gw_n [true, true, true, false, false, false, true, false, true, false] h rfl)
    | 102, _ => (gw_n [true, true, true, false, false, false, true, false, true, true, false] h rfl)
    | 103, _ => (gw_n [true, true, true, false, false, false, true, false, true, true, true] h rfl)
    | 104, _ => (gw_n [true, true, true, false, false, false, true, true, false, false] h rfl)
    | 105, _ => (gw_n [true, true, true, false, false, false, true, true, false, true] h rfl)
    | 106, _ => (gw_n [true, true, true, false, false, false, true, true, true, false] h rfl)
    | 107, _ => (gw_n [true, true, true, false, false, false, true, true, true, true, false] h rfl)
    | 108, _ => (gw_n [true, true, true, false, false, false, true, true, true, true, true] h rfl)
    | 109, _ => (gw_n [true, true, true, false, false, true, false, false, false, false] h rfl)
    | 110, _ => (gw_n [true, true, true, false, false, true, false, false, false, true] h rfl)
    | 111, _ => (gw_n [true, true, true, false, false, true, false, false, true, false] h rfl)
    | 112, _ => (gw_n [true, true, true, false, false, true, false, false, true, true, false] h rfl)
    | 113, _ => (gw_n [true, true, true, false, false, true, false, false, true, true, true] h rfl)
    | 114, _ => (gw_n [true, true, true, false, false, true, false, true, false, false] h rfl)
    | 115, _ => (gw_n [true, true, true, false, false, true, false, true, false, true] h rfl)
    | 116, _ => (gw_n [true, true, true, false, false, true, false, true, true, false] h rfl)
    | 117, _ => (gw_n [true, true, true, false, false, true, false, true, true, true, false] h rfl)
    | 118, _ => (gw_n [true, true, true, false, false, true, false, true, true, true, true] h rfl)
    | 119, _ => (gw_n [true, true, true, false, false, true, true, false, false, false] h rfl)
    | 120, _ => (gw_n [true, true, true, false, false, true, true, false, false, true] h rfl)
    | 121, _ => (gw_n [true, true, true, false, false, true, true, false, true, false] h rfl)
    | 122, _ => (gw_n [true, true, true, false, false, true, true, false, true, true, false] h rfl)
    | 123, _ => (gw_n [true, true, true, false, false, true, true, false, true, true, true] h rfl)
    | 124, _ => (gw_n [true, true, true, false, false, true, true, true, false, false] h rfl)
    | 125, _ => (gw_n [true, true, true, false, false, true, true, true, false, true, false] h rfl)
    | 126, _ => (gw_n [true, true, true, false, false, true, true, true, false, true, true] h rfl)
    | 127, _ => (gw_n [true, true, true, false, false, true, true, true, true, false] h rfl)
    | 128, _ => (gw_n [true, true, true, false, false, true, true, true, true, true, false] h rfl)
    | 129, _ => (gw_n [true, true, true, false, false, true, true, true, true, true, true] h rfl)
    | 130, _ => (gw_n [true, true, true, false, true, false, false, false, false, false] h rfl)
    | 131, _ => (gw_n [true, true, true, false, true, false, false, false, false, true] h rfl)
    | 132, _ => (gw_n [true, true, true, false, true, false, false, false, true, false] h rfl)
    | 133, _ => (gw_n [true, true, true, false, true, false, false, false, true, true, false] h rfl)
    | 134, _ => (gw_n [true, true, true, false, true, false, false, false, true, true, true] h rfl)
    | 135, _ => (gw_n [true, true, true, false, true, false, false, true, false, false] h rfl)
    | 136, _ => (gw_n [true, true, true, false, true, false, false, true, false, true] h rfl)
    | 137, _ => (gw_n [true, true, true, false, true, false, false, true, true, false] h rfl)
    | 138, _ => (gw_n [true, true, true, false, true, false, false, true, true, true, false] h rfl)
    | 139, _ => (gw_n [true, true, true, false, true, false, false, true, true, true, true] h rfl)
    | 140, _ => (gw_n [true, true, true, false, true, false, true, false, false, false] h rfl)
    | 141, _ => (gw_n [true, true, true, false, true, false, true, false, false, true] h rfl)
    | 142, _ => (gw_n [true, true, true, false, true, false, true, false, true, false] h rfl)
    | 143, _ => (gw_n [true, true, true, false, true, false, true, false, true, true, false] h rfl)
    | 144, _ => (gw_n [true, true, true, false, true, false, true, false, true, true, true] h rfl)
    | 145, _ => (gw_n [true, true, true, false, true, false, true, true, false, false] h rfl)
    | 146, _ => (gw_n [true, true, true, false, true, false, true, true, false, true, false] h rfl)
    | 147, _ => (gw_n [true, true, true, false, true, false, true, true, false, true, true] h rfl)
    | 148, _ => (gw_n [true, true, true, false, true, false, true, true, true, false] h rfl)
    | 149, _ => (gw_n [true, true, true, false, true, false, true, true, true, true, false] h rfl)
    | 150, _ => (gw_n [true, true, true, false, true, false, true, true, true, true, true] h rfl)
    | 151, _ => (gw_n [true, true, true, false, true, true, false, false, false, false] h rfl)
    | 152, _ => (gw_n [true, true, true, false, true, true, false, false, false, true] h rfl)
    | 153, _ => (gw_n [true, true, true, false, true, true, false, false, true, false] h rfl)
    | 154, _ => (gw_n [true, true, true, false, true, true, false, false, true, true, false] h rfl)
    | 155, _ => (gw_n [true, true, true, false, true, true, false, false, true, true, true] h rfl)
    | 156, _ => (gw_n [true, true, true, false, true, true, false, true, false, false] h rfl)
    | 157, _ => (gw_n [true, true, true, false, true, true, false, true, false, true] h rfl)
    | 158, _ => (gw_n [true, true, true, false, true, true, false, true, true, false] h rfl)
    | 159, _ => (gw_n [true, true, true, false, true, true, false, true, true, true, false] h rfl)
    | 160, _ => (gw_n [true, true, true, false, true, true, false, true, true, true, true] h rfl)
    | 161, _ => (gw_n [true, true, true, false, true, true, true, false, false, false] h rfl)
    | 162, _ => (gw_n [true, true, true, false, true, true, true, false, false, true] h rfl)
    | 163, _ => (gw_n [true, true, true, false, true, true, true, false, true, false] h rfl)
    | 164, _ => (gw_n [true, true, true, false, true, true, true, false, true, true, false] h rfl)
    | 165, _ => (gw_n [true, true, true, false, true, true, true, false, true, true, true] h rfl)
    | 166, _ => (gw_n [true, true, true, false, true, true, true, true, false, false] h rfl)
    | 167, _ => (gw_n [true, true, true, false, true, true, true, true, false, true, false] h rfl)
    | 168, _ => (gw_n [true, true, true, false, true, true, true, true, false, true, true] h rfl)
    | 169, _ => (gw_n [true, true, true, false, true, true, true, true, true, false] h rfl)
    | 170, _ => (gw_n [true, true, true, false, true, true, true, true, true, true, false] h rfl)
    | 171, _ => (gw_n [true, true, true, false, true, true, true, true, true, true, true] h rfl)
    | 172, _ => (gw_n [true, true, true, true, false, false, false, false, false, false] h rfl)
    | 173, _ => (gw_n [true, true, true, true, false, false, false, false, false, true] h rfl)
    | 174, _ => (gw_n [true, true, true, true, false, false, false, false, true, false] h rfl)
    | 175, _ => (gw_n [true, true, true, true, false, false, false, false, true, true, false] h rfl)
    | 176, _ => (gw_n [true, true, true, true, false, false, false, false, true, true, true] h rfl)
    | 177, _ => (gw_n [true, true, true, true, false, false, false, true, false, false] h rfl)
    | 178, _ => (gw_n [true, true, true, true, false, false, false, true, false, true] h rfl)
    | 179, _ => (gw_n [true, true, true, true, false, false, false, true, true, false] h rfl)
    | 180, _ => (gw_n [true, true, true, true, false, false, false, true, true, true, false] h rfl)
    | 181, _ => (gw_n [true, true, true, true, false, false, false, true, true, true, true] h rfl)
    | 182, _ => (gw_n [true, true, true, true, false, false, true, false, false, false] h rfl)
    | 183, _ => (gw_n [true, true, true, true, false, false, true, false, false, true] h rfl)
    | 184, _ => (gw_n [true, true, true, true, false, false, true, false, true, false] h rfl)
    | 185, _ => (gw_n [true, true, true, true, false, false, true, false, true, true, false] h rfl)
    | 186, _ => (gw_n [true, true, true, true, false, false, true, false, true, true, true] h rfl)
    | 187, _ => (gw_n [true, true, true, true, false, false, true, true, false, false] h rfl)
    | 188, _ => (gw_n [true, true, true, true, false, false, true, true, false, true] h rfl)
    | 189, _ => (gw_n [true, true, true, true, false, false, true, true, true, false] h rfl)
    | 190, _ => (gw_n [true, true, true, true, false, false, true, true, true, true, false] h rfl)
    | 191, _ => (gw_n [true, true, true, true, false, false, true, true, true, true, true] h rfl)
    | 192, _ => (gw_n [true, true, true, true, false, true, false, false, false, false] h rfl)
    | 193, _ => (gw_n [true, true, true, true, false, true, false, false, false, true] h rfl)
    | 194, _ => (gw_n [true, true, true, true, false, true, false, false, true, false] h rfl)
    | 195, _ => (gw_n [true, true, true, true, false, true, false, false, true, true, false] h rfl)
    | 196, _ => (gw_n [true, true, true, true, false, true, false, false, true, true, true] h rfl)
    | 197, _ => (gw_n [true, true, true, true, false, true, false, true, false, false] h rfl)
    | 198, _ => (gw_n [true, true, true, true, false, true, false, true, false, true] h rfl)
    | 199, _ => (gw_n [true, true, true, true, false, true, false, true, true, false] h rfl)
    | 200, _ => (gw_n [true, true, true, true, false, true, false, true, true, true, false] h rfl)
    | 201, _ => (gw_n [true, true, true, true, false, true, false, true, true, true, true] h rfl)
    | 202, _ => (gw_n [true, true, true, true, false, true, true, false, false, false] h rfl)
    | 203, _ => (gw_n [true, true, true, true, false, true, true, false, false, true] h rfl)
    | 204, _ => (gw_n [true, true, true, true, false, true, true, false, true, false] h rfl)
    | 205, _ => (gw_n [true, true, true, true, false, true, true, false, true, true, false] h rfl)
    | 206, _ => (gw_n [true, true, true, true, false, true, true, false, true, true, true] h rfl)
    | 207, _ => (gw_n [true, true, true, true, false, true, true, true, false, false] h rfl)
    | 208, _ => (gw_n [true, true, true, true, false, true, true, true, false, true, false] h rfl)
    | 209, _ => (gw_n [true, true, true, true, false, true, true, true, false, true, true] h rfl)
    | 210, _ => (gw_n [true, true, true, true, false, true, true, true, true, false] h rfl)
    | 211, _ => (gw_n [true, true, true, true, false, true, true, true, true, true, false] h rfl)
    | 212, _ => (gw_n [true, true, true, true, false, true, true, true, true, true, true] h rfl)
    | 213, _ => (gw_n [true, true, true, true, true, false, false, false, false, false] h rfl)
    | 214, _ => (gw_n [true, true, true, true, true, false, false, false, false, true] h rfl)
    | 215, _ => (gw_n [true, true, true, true, true, false, false, false, true, false] h rfl)
    | 216, _ => (gw_n [true, true, true, true, true, false, false, false, true, true, false] h rfl)
    | 217, _ => (gw_n [true, true, true, true, true, false, false, false, true, true, true] h rfl)
    | 218, _ => (gw_n [true, true, true, true, true, false, false, true, false, false] h rfl)
    | 219, _ => (gw_n [true, true, true, true, true, false, false, true, false, true] h rfl)
    | 220, _ => (gw_n [true, true, true, true, true, false, false, true, true, false] h rfl)
    | 221, _ => (gw_n [true, true, true, true, true, false, false, true, true, true, false] h rfl)
    | 222, _ => (gw_n [true, true, true, true, true, false, false, true, true, true, true] h rfl)
    | 223, _ => (gw_n [true, true, true, true, true, false, true, false, false, false] h rfl)
    | 224, _ => (gw_n [true, true, true, true, true, false, true, false, false, true] h rfl)
    | 225, _ => (gw_n [true, true, true, true, true, false, true, false, true, false] h rfl)
    | 226, _ => (gw_n [true, true, true, true, true, false, true, false, true, true, false] h rfl)
    | 227, _ => (gw_n [true, true, true, true, true, false, true, false, true, true, true] h rfl)
    | 228, _ => (gw_n [true, true, true, true, true, false, true, true, false, false] h rfl)
    | 229, _ => (gw_n [true, true, true, true, true, false, true, true, false, true, false] h rfl)
    | 230, _ => (gw_n [true, true, true, true, true, false, true, true, false, true, true] h rfl)
    | m + 231, hj => absurd hj (Nat.not_lt.mpr (Nat.le_add_left 231 m))) hA
theorem gw_strs (h : narrow_1.before args s = true) (hts : ∀ w ∈ lw_tbl, w.before args s = true) (hA : ∀ a : Nat, a < s.heap.size → ¬ A a) : ∃ f : Nat → Nat × Nat, ∀ i : Nat, i < 25 → gw_S A s (gb_strs.getD i ("", 0, "", 0)) (ga_txs.getD i []) (f i) := by
  have h0 : ∀ i : Nat, ∃ q : Nat × Nat, i < 25 → gw_S A s (gb_strs.getD i ("", 0, "", 0)) (ga_txs.getD i []) q := fun i => match i with
    | 0 => (gw_s0 h hts hA).elim fun q hq => ⟨q, fun _ => hq⟩
    | 1 => (gw_s1 h hts hA).elim fun q hq => ⟨q, fun _ => hq⟩
    | 2 => (gw_s2 h hts hA).elim fun q hq => ⟨q, fun _ => hq⟩
    | 3 => (gw_s3 h hts hA).elim fun q hq => ⟨q, fun _ => hq⟩
    | 4 => (gw_s4 h hts hA).elim fun q hq => ⟨q, fun _ => hq⟩
    | 5 => (gw_s5 h hts hA).elim fun q hq => ⟨q, fun _ => hq⟩
    | 6 => (gw_s6 h hts hA).elim fun q hq => ⟨q, fun _ => hq⟩
    | 7 => (gw_s7 h hts hA).elim fun q hq => ⟨q, fun _ => hq⟩
    | 8 => (gw_s8 h hts hA).elim fun q hq => ⟨q, fun _ => hq⟩
    | 9 => (gw_s9 h hts hA).elim fun q hq => ⟨q, fun _ => hq⟩
    | 10 => (gw_s10 h hts hA).elim fun q hq => ⟨q, fun _ => hq⟩
    | 11 => (gw_s11 h hts hA).elim fun q hq => ⟨q, fun _ => hq⟩
    | 12 => (gw_s12 h hts hA).elim fun q hq => ⟨q, fun _ => hq⟩
    | 13 => (gw_s13 h hts hA).elim fun q hq => ⟨q, fun _ => hq⟩
    | 14 => (gw_s14 h hts hA).elim fun q hq => ⟨q, fun _ => hq⟩
    | 15 => (gw_s15 h hts hA).elim fun q hq => ⟨q, fun _ => hq⟩
    | 16 => (gw_s16 h hts hA).elim fun q hq => ⟨q, fun _ => hq⟩
    | 17 => (gw_s17 h hts hA).elim fun q hq => ⟨q, fun _ => hq⟩
    | 18 => (gw_s18 h hts hA).elim fun q hq => ⟨q, fun _ => hq⟩
    | 19 => (gw_s19 h hts hA).elim fun q hq => ⟨q, fun _ => hq⟩
    | 20 => (gw_s20 h hts hA).elim fun q hq => ⟨q, fun _ => hq⟩
    | 21 => (gw_s21 h hts hA).elim fun q hq => ⟨q, fun _ => hq⟩
    | 22 => (gw_s22 h hts hA).elim fun q hq => ⟨q, fun _ => hq⟩
    | 23 => (gw_s23 h hts hA).elim fun q hq => ⟨q, fun _ => hq⟩
    | 24 => (gw_s24 h hts hA).elim fun q hq => ⟨q, fun _ => hq⟩
    | m + 25 => ⟨(0, 0), fun h9 => absurd h9 (Nat.not_lt.mpr (Nat.le_add_left 25 m))⟩
  exact Classical.axiomOfChoice h0
theorem gw_nest (hts : ∀ w ∈ lw_tbl, w.before args s = true) : ∀ q ∈ gb_nest, va_Nw (.methodLinkNest q.1 q.2.1 q.2.2.1 q.2.2.2) s := List.forall_mem_cons.mpr ⟨va_Nw.of rfl (hts _ (gw_t1 35 rfl)), List.forall_mem_cons.mpr ⟨va_Nw.of rfl (hts _ (gw_t2 4 rfl)), List.forall_mem_cons.mpr ⟨va_Nw.of rfl (hts _ (gw_t2 96 rfl)), List.forall_mem_cons.mpr ⟨va_Nw.of rfl (hts _ (gw_t2 138 rfl)), List.forall_mem_cons.mpr ⟨va_Nw.of rfl (hts _ (gw_t3 115 rfl)), List.forall_mem_cons.mpr ⟨va_Nw.of rfl (hts _ (gw_t3 158 rfl)), List.forall_mem_cons.mpr ⟨va_Nw.of rfl (hts _ (gw_t4 90 rfl)), fun _ h => nomatch h⟩⟩⟩⟩⟩⟩⟩
theorem gw_oth (hts : ∀ w ∈ lw_tbl, w.before args s = true) : ∀ w ∈ gb_oth, va_Nw w s := List.forall_mem_cons.mpr ⟨va_Nw.of rfl (hts _ (gw_t5 128 rfl)), List.forall_mem_cons.mpr ⟨va_Nw.of rfl (hts _ (gw_t5 23 rfl)), List.forall_mem_cons.mpr ⟨va_Nw.of rfl (hts _ (gw_t3 186 rfl)), List.forall_mem_cons.mpr ⟨va_Nw.of rfl (hts _ (gw_t4 221 rfl)), List.forall_mem_cons.mpr ⟨va_Nw.of rfl (hts _ (gw_t3 188 rfl)), List.forall_mem_cons.mpr ⟨va_Nw.of rfl (hts _ (gw_t3 190 rfl)), List.forall_mem_cons.mpr ⟨va_Nw.of rfl (hts _ (gw_t3 192 rfl)), fun _ h => nomatch h⟩⟩⟩⟩⟩⟩⟩
theorem gw_nc (h : narrow_1.before args s = true) : ∀ q ∈ gb_nc, va_Nc q.1 q.2 s := List.forall_mem_cons.mpr ⟨va_Nc.of (gw_n [false, false, false, false, false, true, true, true, false, false] h rfl), List.forall_mem_cons.mpr ⟨va_Nc.of (gw_n [false, false, false, false, false, true, true, true, false, true] h rfl), List.forall_mem_cons.mpr ⟨va_Nc.of (gw_n [false, false, false, false, false, true, true, true, true, false] h rfl), fun _ h => nomatch h⟩⟩⟩
theorem gw_zU (h : narrow_1.before args s = true) (hts : ∀ w ∈ lw_tbl, w.before args s = true) (hA : ∀ a : Nat, a < s.heap.size → ¬ A a) : vx_Zq Bundle.tN "UNASSIGNED_STACK" Bundle.steD A s s.heap := vx_Zqof (args := args) (hts _ (gw_t3 211 rfl)) (hts _ (gw_t1 17 rfl)) (gw_n [false, false, false, false, false, false, true, false, true, false] h rfl) hA
theorem gw_zS (h : narrow_1.before args s = true) (hts : ∀ w ∈ lw_tbl, w.before args s = true) (hA : ∀ a : Nat, a < s.heap.size → ¬ A a) : vx_Zq Bundle.tN "SUPPRESSED_SENTINEL" Bundle.listD A s s.heap := vx_Zqof (args := args) (hts _ (gw_t3 213 rfl)) (hts _ (gw_t1 17 rfl)) (gw_n [false, false, false, false, false, false, true, false, true, true] h rfl) hA
theorem gw_zC (h : narrow_1.before args s = true) (hts : ∀ w ∈ lw_tbl, w.before args s = true) (hA : ∀ a : Nat, a < s.heap.size → ¬ A a) : va_Z "java/lang/String" "COMPACT_STRINGS" "Z" (.int 1) A s s.heap := va_Zof (args := args) (hts _ (gw_t3 40 rfl)) (hts _ (gw_t1 13 rfl)) (va_eqi (gw_n [false, false, false, false, false, false, false, false, true, true] h rfl)) hA
theorem gw_zP (h : narrow_1.before args s = true) (hts : ∀ w ∈ lw_tbl, w.before args s = true) (hA : ∀ a : Nat, a < s.heap.size → ¬ A a) : va_Zq "jdk/internal/util/Preconditions" "SIOOBE_FORMATTER" "Ljava/util/function/BiFunction;" A s s.heap := va_Zqof (args := args) (hts _ (gw_t3 56 rfl)) (hts _ (gw_t1 15 rfl)) (gw_n [false, false, false, false, false, false, false, true, false] h rfl) hA
theorem gw_arr {ty : FieldType} (hn : ∀ C, ty ≠ .object C) (h : (Cond.arrayClass ty).before args s = true) : ∃ cA : ClassId, ArrOfT s cA ty ∧ va_RA s cA ty := by
  obtain ⟨cA, kA, comp, h1, h2, h3⟩ := Cond.arrayClass_spec h
  refine ⟨cA, fun n z => ⟨fun k h0 => (by cases h0), kA, h2, comp, h3⟩, ?_⟩
  cases ty <;> first | exact h1 | exact absurd rfl (hn _)
theorem gw_goods (hts : ∀ w ∈ lw_tbl, w.before args s = true) : ∀ w ∈ gb_good, w.before args s = true := fun w h => hts w (List.mem_filter.mp h).1
def gw_D0 (_ : State) : ClassId × (Nat → Nat) := (0, fun _ => 0)
theorem gw_D (hts : ∀ w ∈ lw_tbl, w.before args s = true) : ∃ D : va_G, ∀ (c : Nat) (q : vw_C), vwCl[c]? = some q → u_Kn s q.1 q.2.1 q.2.2 (D.1 c) (D.2 c) := by
  have h0 : ∀ c : Nat, ∃ z : ClassId × (Nat → Nat), ∀ q : vw_C, vwCl[c]? = some q → u_Kn s q.1 q.2.1 q.2.2 z.1 z.2 := by
    intro c
    by_cases hc : c < 12
    · obtain ⟨C, T, N, ty, hv, h2, h3, h4, h5, h6, h7, h8, h9⟩ := gk_wd.1 c hc
      obtain ⟨cC, iS, hk⟩ := u_known (ws := gb_good) (s := s) (args := args) (gw_goods hts) h2 (gw_goods hts _ h8)
      refine ⟨(cC, iS), fun q hq => ?_⟩
      have e := Option.some.inj (hv.symm.trans hq)
      subst e
      exact hk
    · refine ⟨((gw_D0 s).1, (gw_D0 s).2), fun q hq => absurd (List.getElem?_eq_some_iff.mp hq).1 hc⟩
  obtain ⟨f, hf⟩ := Classical.axiomOfChoice h0
  exact ⟨(fun c => (f c).1, fun c => (f c).2), hf⟩
theorem gw_K (hts : ∀ w ∈ lw_tbl, w.before args s = true) : ∃ (D : va_G) (cA : Nat → ClassId), va_K D vwCl (ga_tys cA) s := by
  obtain ⟨D, hD⟩ := gw_D hts
  obtain ⟨c0, a0, b0⟩ := gw_arr (ty := .int) (fun C h => nomatch h) (gw_goods hts _ gk_wd.2.2.2.1)
  obtain ⟨c1, a1, b1⟩ := gw_arr (ty := .byte) (fun C h => nomatch h) (gw_goods hts _ gk_wd.2.2.2.2)
  refine ⟨D, fun k => if k = 0 then c0 else c1, hD, fun k q hq => ?_⟩
  match k, hq with
  | 0, hq => cases hq; exact ⟨a0, b0⟩
  | 1, hq => cases hq; exact ⟨a1, b1⟩
  | m + 2, hq => cases hq
theorem gw_i32 (x : Int32) : Int32.ofNat x.toUInt32.toNat = x := by
  apply Int32.toBitVec_inj.mp
  apply BitVec.eq_of_toNat_eq
  simp
/-- what never changes, at the start -/
theorem gw_E {b L : Nat} {xs : Nat → Int32} (h : narrow_1.before args s = true) (hts : ∀ w ∈ lw_tbl, w.before args s = true) (hX : va_X b L xs s s.heap) (hbl : b < s.heap.size) : ∃ (D : va_G) (cA : Nat → ClassId) (ad adV : Nat → Nat), gb_E D cA ad (fun q : Nat => s.heap.size ≤ q) adV s s.heap ∧ ad 999 = b ∧ ad 0 = s.heap.size := by
  have hA : ∀ a : Nat, a < s.heap.size → ¬ (fun q : Nat => s.heap.size ≤ q) a := fun a h => Nat.not_le.mpr h
  obtain ⟨D, cA, hK⟩ := gw_K (s := s) hts
  obtain ⟨f, hf⟩ := gw_strs (A := fun q : Nat => s.heap.size ≤ q) h hts hA
  obtain ⟨ad, ead⟩ : ∃ ad : Nat → Nat, ad = fun k => if k < 999 then s.heap.size + k else if k = 999 then b else (f (k - 1000)).1 := ⟨_, rfl⟩
  have had1 : ∀ i, ad (1000 + i) = (f i).1 := fun i => by rw [ead]; simp only []; rw [if_neg (by omega), if_neg (by omega), show 1000 + i - 1000 = i by omega]
  have had2 : ∀ k, k < 999 → ad k = s.heap.size + k := fun k hk => by rw [ead]; simp only []; rw [if_pos hk]
  have hst : ∀ q ∈ gb_strs, vk_R q.1 q.2.1 q.2.2.1 (f q.2.2.2).1 s := List.forall_mem_cons.mpr ⟨(hf 0 (by decide)).1, List.forall_mem_cons.mpr ⟨(hf 1 (by decide)).1, List.forall_mem_cons.mpr ⟨(hf 2 (by decide)).1, List.forall_mem_cons.mpr ⟨(hf 3 (by decide)).1, List.forall_mem_cons.mpr ⟨(hf 4 (by decide)).1, List.forall_mem_cons.mpr ⟨(hf 5 (by decide)).1, List.forall_mem_cons.mpr ⟨(hf 6 (by decide)).1, List.forall_mem_cons.mpr ⟨(hf 7 (by decide)).1, List.forall_mem_cons.mpr ⟨(hf 8 (by decide)).1, List.forall_mem_cons.mpr ⟨(hf 9 (by decide)).1, List.forall_mem_cons.mpr ⟨(hf 10 (by decide)).1, List.forall_mem_cons.mpr ⟨(hf 11 (by decide)).1, List.forall_mem_cons.mpr ⟨(hf 12 (by decide)).1, List.forall_mem_cons.mpr ⟨(hf 13 (by decide)).1, List.forall_mem_cons.mpr ⟨(hf 14 (by decide)).1, List.forall_mem_cons.mpr ⟨(hf 15 (by decide)).1, List.forall_mem_cons.mpr ⟨(hf 16 (by decide)).1, List.forall_mem_cons.mpr ⟨(hf 17 (by decide)).1, List.forall_mem_cons.mpr ⟨(hf 18 (by decide)).1, List.forall_mem_cons.mpr ⟨(hf 19 (by decide)).1, List.forall_mem_cons.mpr ⟨(hf 20 (by decide)).1, List.forall_mem_cons.mpr ⟨(hf 21 (by decide)).1, List.forall_mem_cons.mpr ⟨(hf 22 (by decide)).1, List.forall_mem_cons.mpr ⟨(hf 23 (by decide)).1, List.forall_mem_cons.mpr ⟨(hf 24 (by decide)).1, fun _ h => nomatch h⟩⟩⟩⟩⟩⟩⟩⟩⟩⟩⟩⟩⟩⟩⟩⟩⟩⟩⟩⟩⟩⟩⟩⟩⟩
  obtain ⟨adV, eadV⟩ : ∃ adV : Nat → Nat, adV = fun i => if i < 1999 then (f i).2 else if i = 1999 then L else (xs (i - 2000)).toUInt32.toNat := ⟨_, rfl⟩
  have hadV : ∀ i, i < 1999 → adV i = (f i).2 := fun i hi => by rw [eadV]; simp only []; rw [if_pos hi]
  have hSc : gw_Sc ad (fun q : Nat => s.heap.size ≤ q) adV s s.heap := by
    have e1 : ad 999 = b := by rw [ead]; rfl
    have e2 : adV 1999 = L := by rw [eadV]; rfl
    have e3 : gw_xs adV = xs := by
      funext j
      unfold gw_xs
      rw [eadV]
      simp only []
      rw [if_neg (by omega), if_neg (by omega), show 2000 + j - 2000 = j by omega]
      exact gw_i32 _
    unfold gw_Sc
    rw [e1, e2, e3]
    exact ⟨hX, hbl, Nat.not_le.mpr hbl⟩
  refine ⟨D, cA, ad, adV, ⟨hK, fun q hq => by rw [had1]; exact hst q hq, gw_nest hts, gw_oth hts, gw_nc h, gw_zU h hts hA, gw_zS h hts hA, ⟨gw_zC h hts hA, gw_zP h hts hA, hSc⟩, fun i hi => ?_, fun q hq => hq, fun k hk => ?_⟩, ?_, ?_⟩
  · rw [had1, hadV i (Nat.lt_trans hi (by decide))]
    exact (hf i hi).2
  · rw [had2 _ (by omega), had2 _ (by omega)]; omega
  · rw [ead]; rfl
  · rw [had2 0 (by omega)]; rfl
end GV0
end
