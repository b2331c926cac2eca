section D23
/-! ===== numbers by their bits (bt .. b_sshr: out of the kit's rows to paste) ===== -/
def bt (x : Int32) (i : Nat) : Bool := x.toBitVec.getLsbD i
theorem b_ext {x y : Int32} (h : ∀ i, i < 32 → bt x i = bt y i) : x = y := Int32.toBitVec_inj.mp (BitVec.eq_of_getLsbD_eq (fun i hi => h i hi))
theorem b_or (x y : Int32) (i : Nat) : bt (x ||| y) i = (bt x i || bt y i) := by unfold bt; rw [Int32.toBitVec_or, BitVec.getLsbD_or]
theorem b_and (x y : Int32) (i : Nat) : bt (x &&& y) i = (bt x i && bt y i) := by unfold bt; rw [Int32.toBitVec_and, BitVec.getLsbD_and]
theorem b_xor (x y : Int32) (i : Nat) : bt (x ^^^ y) i = (bt x i ^^ bt y i) := by unfold bt; rw [Int32.toBitVec_xor, BitVec.getLsbD_xor]
theorem b_big {x : Int32} {i : Nat} (h : 32 ≤ i) : bt x i = false := BitVec.getLsbD_of_ge _ _ h
theorem b_m1 : ∀ i, i < 32 → bt (-1) i = true := by decide +kernel
theorem b_0 (i : Nat) : bt 0 i = false := BitVec.getLsbD_zero
theorem s_l : ∀ n, n < 32 → ((nI n &&& 31).toBitVec.smod 32).toNat = n := by decide +kernel
theorem b_shl (n : Nat) (hn : n < 32) (x : Int32) {i : Nat} (hi : i < 32) : bt (x <<< (nI n &&& 31)) i = (decide (n ≤ i) && bt x (i - n)) := by
  unfold bt
  rw [Int32.toBitVec_shiftLeft]
  show (x.toBitVec <<< ((nI n &&& 31).toBitVec.smod 32).toNat).getLsbD i = _
  rw [s_l n hn, BitVec.getLsbD_shiftLeft]
  rcases Nat.lt_or_ge i n with h | h
  · simp [h, Nat.not_le.mpr h]
  · simp [hi, h, Nat.not_lt.mpr h]
theorem b_sshr (n : Nat) (hn : n < 32) (x : Int32) {i : Nat} (hi : i < 32) : bt (x >>> (nI n &&& 31)) i = if n + i < 32 then bt x (n + i) else bt x 31 := by
  unfold bt
  rw [Int32.toBitVec_shiftRight]
  show (x.toBitVec.sshiftRight ((nI n &&& 31).toBitVec.smod 32).toNat).getLsbD i = _
  rw [s_l n hn, BitVec.getLsbD_sshiftRight, BitVec.msb_eq_getLsbD_last]
  simp [hi]
theorem b_1 : ∀ i, i < 32 → bt 1 i = decide (i = 0) := by decide +kernel
theorem b_bit (k : Nat) (hk : k < 32) {i : Nat} (hi : i < 32) : bt (1 <<< (nI k &&& 31)) i = decide (i = k) := by
  rw [b_shl k hk 1 hi]
  by_cases h : k ≤ i
  · rw [b_1 _ (by omega), decide_eq_true h, Bool.true_and]
    by_cases h2 : i = k
    · subst h2; simp
    · rw [decide_eq_false h2, decide_eq_false (by omega)]
  · rw [decide_eq_false h, Bool.false_and, decide_eq_false (by omega)]
theorem b_zero {x : Int32} : x = 0 ↔ ∀ i, i < 32 → bt x i = false := by
  constructor
  · rintro rfl i _; exact b_0 i
  · intro h; exact b_ext (fun i hi => by rw [h i hi, b_0])
theorem b_hb (x : Int32) {i : Nat} (hi : i < 32) : dHb x (nI i) = bt x i := by
  unfold dHb
  have e : (x >>> (nI i &&& 31)) &&& 1 = if bt x i = true then 1 else 0 := by
    apply b_ext
    intro j hj
    rw [b_and, b_1 j hj, b_sshr i hi x hj]
    by_cases h0 : j = 0
    · subst h0
      rw [Nat.add_zero, if_pos hi]
      cases bt x i
      · simp [b_0]
      · simp [b_1]
    · rw [decide_eq_false h0, Bool.and_false]
      cases bt x i
      · simp [b_0]
      · simp [b_1 j hj, h0]
  rw [e]
  cases bt x i <;> rfl
theorem b_fo (p : Nat → Bool) {i : Nat} (hi : i < 32) : ∀ m k a, k + m ≤ 32 → bt (dFo (dMf p) m k a) i = (bt a i || (decide (k ≤ i ∧ i < k + m) && p i)) := by
  intro m
  induction m with
  | zero =>
    intro k a _
    unfold dFo
    rw [decide_eq_false (by omega), Bool.false_and, Bool.or_false]
  | succ m ih =>
    intro k a hk
    have e : bt (dMf p k a) i = (bt a i || (decide (i = k) && p i)) := by
      unfold dMf
      by_cases c : p k = true
      · rw [if_pos c, b_or, b_bit k (by omega) hi]
        by_cases h : i = k
        · subst h; simp [c]
        · simp [h]
      · rw [if_neg c]
        by_cases h : i = k
        · subst h; simp [c]
        · simp [h]
    unfold dFo
    rw [ih (k + 1) _ (by omega), e]
    by_cases h : i = k
    · subst h
      rw [decide_eq_false (show ¬ (i + 1 ≤ i ∧ i < i + 1 + m) by omega), decide_eq_true (show i ≤ i ∧ i < i + (m + 1) by omega)]
      simp
    · by_cases h2 : k ≤ i ∧ i < k + (m + 1)
      · rw [decide_eq_true h2, decide_eq_false h, decide_eq_true (show k + 1 ≤ i ∧ i < k + 1 + m by omega)]; simp
      · rw [decide_eq_false h2, decide_eq_false h, decide_eq_false (show ¬ (k + 1 ≤ i ∧ i < k + 1 + m) by omega)]; simp
theorem b_ms (p : Nat → Bool) {n : Nat} (hn : n ≤ 32) {i : Nat} (hi : i < 32) : bt (dMs p n) i = (decide (i < n) && p i) := by
  unfold dMs
  rw [b_fo p hi n 0 0 (by omega), b_0, Bool.false_or]
  congr 1
  by_cases h : i < n
  · rw [decide_eq_true h, decide_eq_true (by omega)]
  · rw [decide_eq_false h, decide_eq_false (by omega)]
end D23
