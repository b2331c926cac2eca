section D39
variable {N : Nat → Nat} {Q P : Nat → Nat → Int32} {s : ga_M} {m : Nat} {H : Nat → Nat → Nat → Int32}
/-! texts -/
theorem s_u : ∀ n, n < 32 → (((nI n).toUInt32 &&& Int32.toUInt32 31).toBitVec % 32).toNat = n := by decide +kernel
theorem b_ushr (n : Nat) (hn : n < 32) (x : Int32) (i : Nat) : bt ((x.toUInt32 >>> ((nI n).toUInt32 &&& Int32.toUInt32 31)).toInt32) i = bt x (n + i) := by
  show (x.toUInt32 >>> ((nI n).toUInt32 &&& Int32.toUInt32 31)).toBitVec.getLsbD i = x.toUInt32.toBitVec.getLsbD (n + i)
  rw [UInt32.toBitVec_shiftRight]
  show (x.toUInt32.toBitVec >>> (((nI n).toUInt32 &&& Int32.toUInt32 31).toBitVec % 32).toNat).getLsbD i = _
  rw [s_u n hn, BitVec.getLsbD_ushiftRight]
theorem b_255 (i : Nat) : bt 255 i = decide (i < 8) := by
  rcases Nat.lt_or_ge i 32 with h | h
  · exact (by decide +kernel : ∀ i, i < 32 → bt 255 i = decide (i < 8)) i h
  · rw [b_big h, decide_eq_false (by omega)]
/-- a byte of four characters, in the class, in the reference -/
def cB (v : Int32) (k : Nat) : Int32 := (v.toUInt32 >>> ((nI k).toUInt32 &&& Int32.toUInt32 31)).toInt32 &&& 255
def rB (v : Int32) (k : Nat) : Int32 := (((v >>> (nI k &&& 31))).toInt8.toInt32).toInt8.toInt32
theorem d_i8 (x : Int32) : x.toInt8.toInt32 &&& 255 = x &&& 255 := by
  apply Int32.toBitVec_inj.mp
  rw [Int32.toBitVec_and, Int32.toBitVec_and]
  apply BitVec.eq_of_getLsbD_eq
  intro i hi
  rw [BitVec.getLsbD_and, BitVec.getLsbD_and]
  have e : (Int32.toBitVec 255).getLsbD i = decide (i < 8) := b_255 i
  rw [e]
  by_cases h : i < 8
  · rw [decide_eq_true h, Bool.and_true, Bool.and_true]
    rw [Int8.toBitVec_toInt32, Int32.toBitVec_toInt8, BitVec.getLsbD_signExtend, BitVec.getLsbD_signExtend, if_pos h, if_pos hi]
    simp only [h, hi, decide_true, Bool.true_and]
  · rw [decide_eq_false h, Bool.and_false, Bool.and_false]
theorem rB_cB (v : Int32) {k : Nat} (hk : k ≤ 24) : rB v k &&& 255 = cB v k := by
  unfold rB cB
  rw [d_i8, d_i8]
  apply b_ext
  intro i hi
  rw [b_and, b_and, b_255]
  by_cases h : i < 8
  · rw [b_ushr k (by omega), b_sshr k (by omega) v hi, if_pos (by omega)]
  · rw [decide_eq_false h, Bool.and_false, Bool.and_false]
theorem cB_lt (v : Int32) (k : Nat) : ∃ b, b < 256 ∧ cB v k = nI b := by
  have := pk_andE ((v.toUInt32 >>> ((nI k).toUInt32 &&& Int32.toUInt32 31)).toInt32) (m := 255) 8 (by decide)
  exact this
def dRb (x y : Int32) : Prop := ∃ b, b < 256 ∧ x = nI b ∧ y &&& 255 = nI b
theorem dRb_B (v : Int32) {k : Nat} (hk : k ≤ 24) : dRb (cB v k) (rB v k) := by
  obtain ⟨b, h1, h2⟩ := cB_lt v k
  exact ⟨b, h1, h2, by rw [rB_cB v hk, h2]⟩
def cT (s s2 : ga_M) (L : Nat) (v : Int32) : Prop := (∀ i, i < L → s2 47 i = s 47 i) ∧ s2 47 L = cB v 24 ∧ s2 47 (L + 1) = cB v 16 ∧ s2 47 (L + 2) = cB v 8 ∧ s2 47 (L + 3) = cB v 0
def mT (s s2 : ga_M) (L : Nat) (v : Int32) : Prop := (∀ i, i < L → s2 80 i = s 80 i) ∧ s2 80 L = rB v 24 ∧ s2 80 (L + 1) = rB v 16 ∧ s2 80 (L + 2) = rB v 8 ∧ s2 80 (L + 3) = rB v 0
theorem dRb_4 {s s2 t t2 : ga_M} {L : Nat} {v : Int32} (h : ∀ i, i < L → dRb (s 47 i) (t 80 i)) (h1 : cT s s2 L v) (h2 : mT t t2 L v) : ∀ i, i < L + 4 → dRb (s2 47 i) (t2 80 i) := by
  obtain ⟨a0, a1, a2, a3, a4⟩ := h1
  obtain ⟨b0, b1, b2, b3, b4⟩ := h2
  intro i hi
  by_cases c : i < L
  · rw [a0 i c, b0 i c]; exact h i c
  · rcases (show i = L ∨ i = L + 1 ∨ i = L + 2 ∨ i = L + 3 by omega) with rfl | rfl | rfl | rfl
    · rw [a1, b1]; exact dRb_B v (by omega)
    · rw [a2, b2]; exact dRb_B v (by omega)
    · rw [a3, b3]; exact dRb_B v (by omega)
    · rw [a4, b4]; exact dRb_B v (by omega)
theorem c_append {L : Nat} (hL : L + 4 ≤ 900) (h1 : s 45 1 = nI L) (v : Int32) : ∃ s2, f_X10_append v s = some s2 ∧ (∀ c, c ≠ 45 → c ≠ 47 → s2 c = s c) ∧ (∀ f, f ≠ 1 → s2 45 f = s 45 f) ∧ s2 45 1 = nI (L + 4) ∧ cT s s2 L v := by
  have st : ∀ (n : Nat) (t : ga_M) (k K : Nat), K < 900 → t 45 1 = nI K → k ≤ 24 → f_X10_append_h3 (n + 1) v (nI k) t = f_X10_append_h3 n v (nI k + (-8)) (ga_up (ga_up t 47 K (cB v k)) 45 1 (nI (K + 1))) := by
    intro n t k K hK ht hk
    rw [f_X10_append_h3]
    dsimp only
    rw [if_neg (nI_pos (show k < 2147483648 by omega)), ht, d_pt hK (by omega), d_up_ne (show 45 ≠ 47 by decide), ht, d_p1]
    rfl
  rw [fe_X10_append]; unfold fb_X10_append
  obtain ⟨n, hn⟩ : ∃ n, ga_fuel = n + 5 := ⟨ga_fuel - 5, by have := d_fuel (n := 10) (by omega); omega⟩
  rw [hn, show (24 : Int32) = nI 24 from rfl, st (n + 4) s 24 L (by omega) h1 (by omega), show nI 24 + (-8) = nI 16 from rfl, st (n + 3) _ 16 (L + 1) (by omega) d_up_eq (by omega), show nI 16 + (-8) = nI 8 from rfl, st (n + 2) _ 8 (L + 1 + 1) (by omega) d_up_eq (by omega), show nI 8 + (-8) = nI 0 from rfl, st (n + 1) _ 0 (L + 1 + 1 + 1) (by omega) d_up_eq (by omega)]
  rw [f_X10_append_h3, if_pos (by decide)]
  refine ⟨_, rfl, fun c c1 c2 => ?_, fun f hf => ?_, d_up_eq, fun i hi => ?_, ?_, ?_, ?_, ?_⟩
  · rw [d_up_ne c1, d_up_ne c2, d_up_ne c1, d_up_ne c2, d_up_ne c1, d_up_ne c2, d_up_ne c1, d_up_ne c2]
  · rw [d_up_nk (by omega), d_up_nk (by omega), d_up_nk (by omega), d_up_nk (by omega), d_up_nk (by omega), d_up_nk (by omega), d_up_nk (by omega), d_up_nk (by omega)]
  · rw [d_up_nk (by omega), d_up_nk (by omega), d_up_nk (by omega), d_up_nk (by omega), d_up_nk (by omega), d_up_nk (by omega), d_up_nk (by omega), d_up_nk (by omega)]
  · rw [d_up_nk (by omega), d_up_nk (by omega), d_up_nk (by omega), d_up_nk (by omega), d_up_nk (by omega), d_up_nk (by omega), d_up_nk (by omega), d_up_eq]
  · rw [d_up_nk (by omega), d_up_nk (by omega), d_up_nk (by omega), d_up_nk (by omega), d_up_nk (by omega), d_up_eq]
  · rw [d_up_nk (by omega), d_up_nk (by omega), d_up_nk (by omega), d_up_eq]
  · rw [d_up_nk (by omega), d_up_eq]
end D39
