section D39
variable {N : Nat → Nat} {Q P : Nat → Nat → Int32} {s : ga_M} {m : Nat} {H : Nat → Nat → Nat → Int32}
theorem o_chain (hW : dW N Q P) (hX : dWH N m H) (a : Int32) : dCo N Q P m H (f_X11_chain a) (f_X12_chain a) (dK 3 3) := by
  have hNw := hW.1
  have hB := dWN_b hNw
  rcases d_in a (N 6) (by omega) with ⟨i, hi, rfl⟩ | ⟨_, hn⟩
  · obtain ⟨c, _, hlen, hcl, hml⟩ := d_find_both hW hi
    refine ⟨P, m, H, .inl (nI c.length), hW, hX, fun s h hh => ?_, fun s h hh => ?_⟩
    · obtain ⟨s1, e1, e2, _⟩ := hcl s h
      have f : ∀ c, c ≤ 31 ∨ 41 ≤ c → s1 c = s c := fun c hc => e2 c (by omega) (by omega) (by omega) (by omega) (by omega)
      refine ⟨s1, ?_, fun c hc => f c (by omega), dC_lt (fun c hc => f c (by omega)) h, dCH_cong (f 42 (by omega)) (f 44 (by omega)) hh⟩
      rw [fe_X11_chain]; unfold fb_X11_chain
      simp only [cL_y hNw h hi, e1, d_fails1, d_fails0, d_10, d_01, d_00, d_11, true_or, or_true, or_self, if_true, if_false, reduceIte, Option.elim_none, Option.elim_some, Option.bind_some, d_up_up]
    · obtain ⟨s1, e1, e2, _⟩ := hml _ (dM_726 h 0)
      have hq := dFq_gFr e2
      refine ⟨_, s1, ?_, dFm_trans (dFm_726 s 0) (dFm_q hq), gFr_dM e2 (dM_726 h 0), dMH_q hq (dMH_726 hh 0), rfl, by rw [hq.2 6 (by omega) (by omega), d_up_eq]⟩
      rw [fe_X12_chain]; unfold fb_X12_chain
      simp only [mL_y hNw h hi, e1, d_fails1, d_fails0, d_10, d_01, d_00, d_11, true_or, or_true, or_self, if_true, if_false, reduceIte, Option.elim_none, Option.elim_some, Option.bind_some, d_up_up]
  · refine dCo_no hW hX 3 (by decide) (fun s h => ?_) (fun s h => ?_)
    · rw [fe_X11_chain]; unfold fb_X11_chain
      simp only [cL_n hNw h hn, d_fails1, d_fails0, d_10, d_01, d_00, d_11, true_or, or_true, or_self, if_true, if_false, reduceIte, Option.elim_none, Option.elim_some, Option.bind_some, d_up_up]
    · rw [fe_X12_chain]; unfold fb_X12_chain
      simp only [mL_n hNw h hn, dK_a, dK_31, dK_32, dK_34, d_fails1, d_fails0, d_10, d_01, d_00, d_11, true_or, or_true, or_self, if_true, if_false, reduceIte, Option.elim_none, Option.elim_some, Option.bind_some, d_up_up]
theorem o_chainTeacher (hW : dW N Q P) (hX : dWH N m H) (a b : Int32) : dCo N Q P m H (f_X11_chainTeacher a b) (f_X12_chainTeacher a b) (dK 3 4) := by
  have hNw := hW.1
  have hB := dWN_b hNw
  rcases d_in a (N 6) (by omega) with ⟨i, hi, rfl⟩ | ⟨_, hn⟩
  · obtain ⟨c, _, hlen, hcl, hml⟩ := d_find_both hW hi
    rcases d_in b c.length (by omega) with ⟨j, hj, rfl⟩ | ⟨hr, hno⟩
    · refine ⟨P, m, H, .inl (nI (c.getD j 0)), hW, hX, fun s h hh => ?_, fun s h hh => ?_⟩
      · obtain ⟨s1, e1, e2, _, e4⟩ := hcl s h
        have f : ∀ c, c ≤ 31 ∨ 41 ≤ c → s1 c = s c := fun c hc => e2 c (by omega) (by omega) (by omega) (by omega) (by omega)
        refine ⟨s1, ?_, fun c hc => f c (by omega), dC_lt (fun c hc => f c (by omega)) h, dCH_cong (f 42 (by omega)) (f 44 (by omega)) hh⟩
        rw [fe_X11_chainTeacher]; unfold fb_X11_chainTeacher
        simp only [cL_y hNw h hi, e1, d_fails1, d_fails0, d_10, d_01, d_00, d_11, true_or, or_true, or_self, if_true, if_false, reduceIte, Option.elim_none, Option.elim_some, Option.bind_some, d_up_up]
        rw [if_neg (nI_pos (by omega)), if_pos (nI_lt hj (by omega)), d_at (show j < 4 by omega) (by omega), e4 j hj]
      · obtain ⟨s1, e1, e2, _, e4⟩ := hml _ (dM_726 h 0)
        have hq := dFq_gFr e2
        have hM1 := gFr_dM e2 (dM_726 h 0)
        have hin : ∀ t : ga_M, v_X12_in (nI j).toInt64 (0 : Int32).toInt64 (nI c.length - 1 : Int32).toInt64 t = 1 := fun t => dm_inL (x := 0) (by omega) hj
        refine ⟨_, ga_up s1 72 6 0, ?_, dFm_trans (dFm_726 s 0) (dFm_trans (dFm_q hq) (dFm_726 s1 0)), dM_726 hM1 0, dMH_726 (dMH_q hq (dMH_726 hh 0)) 0, rfl, by rw [d_up_eq]⟩
        rw [fe_X12_chainTeacher]; unfold fb_X12_chainTeacher
        simp only [mL_y hNw h hi, e1, hin, d_fails1, d_fails0, d_10, d_01, d_00, d_11, true_or, or_true, or_self, if_true, if_false, reduceIte, Option.elim_none, Option.elim_some, Option.bind_some, d_up_up]
        rw [if_neg (nI_in (c := j) (N := 4) (by omega) (by omega)), d_cl (show j < 2147483648 by omega), d_up_ne (by decide), e4 j hj]
    · refine ⟨P, m, H, .inr 4, hW, hX, fun s h hh => ?_, fun s h hh => ?_⟩
      · obtain ⟨s1, e1, e2, _, e4⟩ := hcl s h
        have f : ∀ c, c ≤ 31 ∨ 41 ≤ c → s1 c = s c := fun c hc => e2 c (by omega) (by omega) (by omega) (by omega) (by omega)
        refine ⟨s1, ?_, fun c hc => f c (by omega), dC_lt (fun c hc => f c (by omega)) h, dCH_cong (f 42 (by omega)) (f 44 (by omega)) hh⟩
        rw [fe_X11_chainTeacher]; unfold fb_X11_chainTeacher
        simp only [cL_y hNw h hi, e1, d_fails1, d_fails0, d_10, d_01, d_00, d_11, true_or, or_true, or_self, if_true, if_false, reduceIte, Option.elim_none, Option.elim_some, Option.bind_some, d_up_up]
        rcases hr with hr | hr
        · rw [if_pos hr]
        · rw [if_neg (Int32.not_lt.mpr hr)]
          split <;> rfl
      · obtain ⟨s1, e1, e2, _, e4⟩ := hml _ (dM_726 h 0)
        have hq := dFq_gFr e2
        have hM1 := gFr_dM e2 (dM_726 h 0)
        have hin : ∀ t : ga_M, v_X12_in b.toInt64 (0 : Int32).toInt64 (nI c.length - 1 : Int32).toInt64 t = 0 := fun t => dm_inM (by omega) hno
        refine ⟨0, ga_up s1 72 6 2, ?_, dFm_trans (dFm_726 s 0) (dFm_trans (dFm_q hq) (dFm_726 s1 2)), dM_726 hM1 2, dMH_726 (dMH_q hq (dMH_726 hh 0)) 2, by decide, by rw [d_up_eq]; rfl⟩
        rw [fe_X12_chainTeacher]; unfold fb_X12_chainTeacher
        simp only [mL_y hNw h hi, e1, hin, d_fails1, d_fails0, d_10, d_01, d_00, d_11, true_or, or_true, or_self, if_true, if_false, reduceIte, Option.elim_none, Option.elim_some, Option.bind_some, d_up_up]
  · refine dCo_no hW hX 3 (by decide) (fun s h => ?_) (fun s h => ?_)
    · rw [fe_X11_chainTeacher]; unfold fb_X11_chainTeacher
      simp only [cL_n hNw h hn, d_fails1, d_fails0, d_10, d_01, d_00, d_11, true_or, or_true, or_self, if_true, if_false, reduceIte, Option.elim_none, Option.elim_some, Option.bind_some, d_up_up]
    · rw [fe_X12_chainTeacher]; unfold fb_X12_chainTeacher
      simp only [mL_n hNw h hn, dK_a, dK_31, dK_32, dK_34, d_fails1, d_fails0, d_10, d_01, d_00, d_11, true_or, or_true, or_self, if_true, if_false, reduceIte, Option.elim_none, Option.elim_some, Option.bind_some, d_up_up]
/-! texts -/
theorem s_u : ∀ n, n < 32 → (((nI n).toUInt32 &&& Int32.toUInt32 31).toBitVec % 32).toNat = n := by decide +kernel
theorem b_ushr (n : Nat) (hn : n < 32) (x : Int32) (i : Nat) : bt ((x.toUInt32 >>> ((nI n).toUInt32 &&& Int32.toUInt32 31)).toInt32) i = bt x (n + i) := by
  show (x.toUInt32 >>> ((nI n).toUInt32 &&& Int32.toUInt32 31)).toBitVec.getLsbD i = x.toUInt32.toBitVec.getLsbD (n + i)
  rw [UInt32.toBitVec_shiftRight]
  show (x.toUInt32.toBitVec >>> (((nI n).toUInt32 &&& Int32.toUInt32 31).toBitVec % 32).toNat).getLsbD i = _
  rw [s_u n hn, BitVec.getLsbD_ushiftRight]
theorem b_255 (i : Nat) : bt 255 i = decide (i < 8) := by
  rcases Nat.lt_or_ge i 32 with h | h
  · exact (by decide +kernel : ∀ i, i < 32 → bt 255 i = decide (i < 8)) i h
  · rw [b_big h, decide_eq_false (by omega)]
/-- a byte of four characters, in the class, in the reference -/
def cB (v : Int32) (k : Nat) : Int32 := (v.toUInt32 >>> ((nI k).toUInt32 &&& Int32.toUInt32 31)).toInt32 &&& 255
def rB (v : Int32) (k : Nat) : Int32 := (((v >>> (nI k &&& 31))).toInt8.toInt32).toInt8.toInt32
theorem d_i8 (x : Int32) : x.toInt8.toInt32 &&& 255 = x &&& 255 := by
  apply Int32.toBitVec_inj.mp
  rw [Int32.toBitVec_and, Int32.toBitVec_and]
  apply BitVec.eq_of_getLsbD_eq
  intro i hi
  rw [BitVec.getLsbD_and, BitVec.getLsbD_and]
  have e : (Int32.toBitVec 255).getLsbD i = decide (i < 8) := b_255 i
  rw [e]
  by_cases h : i < 8
  · rw [decide_eq_true h, Bool.and_true, Bool.and_true]
    rw [Int8.toBitVec_toInt32, Int32.toBitVec_toInt8, BitVec.getLsbD_signExtend, BitVec.getLsbD_signExtend, if_pos h, if_pos hi]
    simp only [h, hi, decide_true, Bool.true_and]
  · rw [decide_eq_false h, Bool.and_false, Bool.and_false]
theorem rB_cB (v : Int32) {k : Nat} (hk : k ≤ 24) : rB v k &&& 255 = cB v k := by
  unfold rB cB
  rw [d_i8, d_i8]
  apply b_ext
  intro i hi
  rw [b_and, b_and, b_255]
  by_cases h : i < 8
  · rw [b_ushr k (by omega), b_sshr k (by omega) v hi, if_pos (by omega)]
  · rw [decide_eq_false h, Bool.and_false, Bool.and_false]
theorem cB_lt (v : Int32) (k : Nat) : ∃ b, b < 256 ∧ cB v k = nI b := by
  have := pk_andE ((v.toUInt32 >>> ((nI k).toUInt32 &&& Int32.toUInt32 31)).toInt32) (m := 255) 8 (by decide)
  exact this
def dRb (x y : Int32) : Prop := ∃ b, b < 256 ∧ x = nI b ∧ y &&& 255 = nI b
theorem dRb_B (v : Int32) {k : Nat} (hk : k ≤ 24) : dRb (cB v k) (rB v k) := by
  obtain ⟨b, h1, h2⟩ := cB_lt v k
  exact ⟨b, h1, h2, by rw [rB_cB v hk, h2]⟩
def cT (s s2 : ga_M) (L : Nat) (v : Int32) : Prop := (∀ i, i < L → s2 47 i = s 47 i) ∧ s2 47 L = cB v 24 ∧ s2 47 (L + 1) = cB v 16 ∧ s2 47 (L + 2) = cB v 8 ∧ s2 47 (L + 3) = cB v 0
def mT (s s2 : ga_M) (L : Nat) (v : Int32) : Prop := (∀ i, i < L → s2 80 i = s 80 i) ∧ s2 80 L = rB v 24 ∧ s2 80 (L + 1) = rB v 16 ∧ s2 80 (L + 2) = rB v 8 ∧ s2 80 (L + 3) = rB v 0
theorem dRb_4 {s s2 t t2 : ga_M} {L : Nat} {v : Int32} (h : ∀ i, i < L → dRb (s 47 i) (t 80 i)) (h1 : cT s s2 L v) (h2 : mT t t2 L v) : ∀ i, i < L + 4 → dRb (s2 47 i) (t2 80 i) := by
  obtain ⟨a0, a1, a2, a3, a4⟩ := h1
  obtain ⟨b0, b1, b2, b3, b4⟩ := h2
  intro i hi
  by_cases c : i < L
  · rw [a0 i c, b0 i c]; exact h i c
  · rcases (show i = L ∨ i = L + 1 ∨ i = L + 2 ∨ i = L + 3 by omega) with rfl | rfl | rfl | rfl
    · rw [a1, b1]; exact dRb_B v (by omega)
    · rw [a2, b2]; exact dRb_B v (by omega)
    · rw [a3, b3]; exact dRb_B v (by omega)
    · rw [a4, b4]; exact dRb_B v (by omega)
theorem c_append {L : Nat} (hL : L + 4 ≤ 900) (h1 : s 45 1 = nI L) (v : Int32) : ∃ s2, f_X10_append v s = some s2 ∧ (∀ c, c ≠ 45 → c ≠ 47 → s2 c = s c) ∧ (∀ f, f ≠ 1 → s2 45 f = s 45 f) ∧ s2 45 1 = nI (L + 4) ∧ cT s s2 L v := by
  have st : ∀ (n : Nat) (t : ga_M) (k K : Nat), K < 900 → t 45 1 = nI K → k ≤ 24 → f_X10_append_h3 (n + 1) v (nI k) t = f_X10_append_h3 n v (nI k + (-8)) (ga_up (ga_up t 47 K (cB v k)) 45 1 (nI (K + 1))) := by
    intro n t k K hK ht hk
    rw [f_X10_append_h3]
    dsimp only
    rw [if_neg (nI_pos (show k < 2147483648 by omega)), ht, d_pt hK (by omega), d_up_ne (show 45 ≠ 47 by decide), ht, d_p1]
    rfl
  rw [fe_X10_append]; unfold fb_X10_append
  obtain ⟨n, hn⟩ : ∃ n, ga_fuel = n + 5 := ⟨ga_fuel - 5, by have := d_fuel (n := 10) (by omega); omega⟩
  rw [hn, show (24 : Int32) = nI 24 from rfl, st (n + 4) s 24 L (by omega) h1 (by omega), show nI 24 + (-8) = nI 16 from rfl, st (n + 3) _ 16 (L + 1) (by omega) d_up_eq (by omega), show nI 16 + (-8) = nI 8 from rfl, st (n + 2) _ 8 (L + 1 + 1) (by omega) d_up_eq (by omega), show nI 8 + (-8) = nI 0 from rfl, st (n + 1) _ 0 (L + 1 + 1 + 1) (by omega) d_up_eq (by omega)]
  rw [f_X10_append_h3, if_pos (by decide)]
  refine ⟨_, rfl, fun c c1 c2 => ?_, fun f hf => ?_, d_up_eq, fun i hi => ?_, ?_, ?_, ?_, ?_⟩
  · rw [d_up_ne c1, d_up_ne c2, d_up_ne c1, d_up_ne c2, d_up_ne c1, d_up_ne c2, d_up_ne c1, d_up_ne c2]
  · rw [d_up_nk (by omega), d_up_nk (by omega), d_up_nk (by omega), d_up_nk (by omega), d_up_nk (by omega), d_up_nk (by omega), d_up_nk (by omega), d_up_nk (by omega)]
  · rw [d_up_nk (by omega), d_up_nk (by omega), d_up_nk (by omega), d_up_nk (by omega), d_up_nk (by omega), d_up_nk (by omega), d_up_nk (by omega), d_up_nk (by omega)]
  · rw [d_up_nk (by omega), d_up_nk (by omega), d_up_nk (by omega), d_up_nk (by omega), d_up_nk (by omega), d_up_nk (by omega), d_up_nk (by omega), d_up_eq]
  · rw [d_up_nk (by omega), d_up_nk (by omega), d_up_nk (by omega), d_up_nk (by omega), d_up_nk (by omega), d_up_eq]
  · rw [d_up_nk (by omega), d_up_nk (by omega), d_up_nk (by omega), d_up_eq]
  · rw [d_up_nk (by omega), d_up_eq]
theorem m_bring {L : Nat} (hL : L + 4 ≤ 900) (h1 : s 72 12 = nI L) (v : Int32) : ∃ s2, f_X12_bring v s = some s2 ∧ (∀ c, c ≠ 72 → c ≠ 80 → s2 c = s c) ∧ (∀ f, f ≠ 12 → s2 72 f = s 72 f) ∧ s2 72 12 = nI (L + 4) ∧ mT s s2 L v := by
  have st : ∀ (n : Nat) (t : ga_M) (k K : Nat), K < 900 → t 72 12 = nI K → k ≤ 3 → f_X12_bring_h2 (n + 1) v (nI k) t = f_X12_bring_h2 n v (nI k + (-1)) (ga_up (ga_up t 72 12 (nI (K + 1))) 80 K (rB v (8 * k))) := by
    intro n t k K hK ht hk
    rw [f_X12_bring_h2]
    dsimp only
    rw [if_neg (nI_pos (show k < 2147483648 by omega)), ht, if_neg (nI_in hK (by omega)), d_cl (show K < 2147483648 by omega), d_p1, show (8 : Int32) * nI k = nI (8 * k) from pk_mul 8 k]
    rfl
  rw [fe_X12_bring]; unfold fb_X12_bring
  obtain ⟨n, hn⟩ : ∃ n, ga_fuel = n + 5 := ⟨ga_fuel - 5, by have := d_fuel (n := 10) (by omega); omega⟩
  rw [hn, show (3 : Int32) = nI 3 from rfl, st (n + 4) s 3 L (by omega) h1 (by omega), show nI 3 + (-1) = nI 2 from rfl, st (n + 3) _ 2 (L + 1) (by omega) (by rw [d_up_ne (by decide), d_up_eq]) (by omega), show nI 2 + (-1) = nI 1 from rfl, st (n + 2) _ 1 (L + 1 + 1) (by omega) (by rw [d_up_ne (by decide), d_up_eq]) (by omega), show nI 1 + (-1) = nI 0 from rfl, st (n + 1) _ 0 (L + 1 + 1 + 1) (by omega) (by rw [d_up_ne (by decide), d_up_eq]) (by omega)]
  rw [f_X12_bring_h2, if_pos (by decide)]
  refine ⟨_, rfl, fun c c1 c2 => ?_, fun f hf => ?_, by rw [d_up_ne (by decide), d_up_eq], fun i hi => ?_, ?_, ?_, ?_, ?_⟩
  · rw [d_up_ne c2, d_up_ne c1, d_up_ne c2, d_up_ne c1, d_up_ne c2, d_up_ne c1, d_up_ne c2, d_up_ne c1]
  · rw [d_up_nk (by omega), d_up_nk (by omega), d_up_nk (by omega), d_up_nk (by omega), d_up_nk (by omega), d_up_nk (by omega), d_up_nk (by omega), d_up_nk (by omega)]
  · rw [d_up_nk (by omega), d_up_nk (by omega), d_up_nk (by omega), d_up_nk (by omega), d_up_nk (by omega), d_up_nk (by omega), d_up_nk (by omega), d_up_nk (by omega)]
  · rw [d_up_nk (by omega), d_up_nk (by omega), d_up_nk (by omega), d_up_nk (by omega), d_up_nk (by omega), d_up_nk (by omega), d_up_eq]
  · rw [d_up_nk (by omega), d_up_nk (by omega), d_up_nk (by omega), d_up_nk (by omega), d_up_eq]
  · rw [d_up_nk (by omega), d_up_nk (by omega), d_up_eq]
  · rw [d_up_eq]
end D39
