section D45
/-! ===== both readers, step by step ===== -/
variable {T : Nat → Nat} {L : Nat} {s t : ga_M}
def nRel (v w : Nat) : Prop := (w ≤ 100000000 → v = w) ∧ (100000000 < w → 100000000 < v) ∧ v ≤ 1000000009
theorem m_digits_l (hT : tOk T L) (h : mX T L t) {st en : Nat} (hen : en ≤ L) (h14 : t 72 14 = nI en) (hd : ∀ j, st ≤ j → j < en → tDi (tB T L j) = true) : ∀ r i n v, i + r = en → r < n → st ≤ i → nRel v (tN T (i - st) st 0) → ∃ v2, f_X12_digits_h7 n (lN v) (nI i) t = some (lN v2) ∧ nRel v2 (tN T (en - st) st 0) := by
  have hL := hT.1
  intro r
  induction r with
  | zero =>
    intro i n v hi hn hst hr
    obtain ⟨n, rfl⟩ : ∃ k, n = k + 1 := ⟨n - 1, by omega⟩
    have : i = en := by omega
    subst this
    rw [f_X12_digits_h7, h14, if_pos (nI_le (Nat.le_refl _) (by omega))]
    exact ⟨v, rfl, hr⟩
  | succ r ih =>
    intro i n v hi hn hst hr
    obtain ⟨n, rfl⟩ : ∃ k, n = k + 1 := ⟨n - 1, by omega⟩
    have hlt : i < L := by omega
    have h256 := hT.2 i hlt
    have hdi := hd i hst (by omega)
    rw [tB_lt hlt] at hdi
    unfold tDi at hdi
    rw [Bool.and_eq_true, decide_eq_true_eq, decide_eq_true_eq] at hdi
    have hv := hr.2.2
    rw [f_X12_digits_h7]
    dsimp only
    rw [h14, if_neg (nI_ge (show i < en by omega) (by omega)), d_p1, m_byteAt hT h (by omega), Option.bind_some]
    have hc : (lg_cmp (lN v) ((100000000 : Int32).toInt64) ≤ 0) ↔ v ≤ 100000000 := by
      rw [← Int32.not_lt, lg_cmp_gt, show (100000000 : Int32).toInt64 = lN 100000000 from nI_l (n := 100000000) (by omega), lN_lt (by omega) (by omega)]
      omega
    have ew : tN T (i + 1 - st) st 0 = tN T (i - st) st 0 * 10 + (T i - 48) := by
      rw [show i + 1 - st = (i - st) + 1 by omega, tN_snoc, show st + (i - st) = i by omega]
    by_cases c : v ≤ 100000000
    · rw [if_pos (hc.mpr c)]
      have ev : (((10 : Int32).toInt64 * lN v) + (tY T L i).toInt64) - (48 : Int32).toInt64 = lN (10 * v + T i - 48) := by
        unfold tY
        rw [if_pos hlt, show (10 : Int32).toInt64 = lN 10 from nI_l (n := 10) (by omega), show (48 : Int32).toInt64 = lN 48 from nI_l (n := 48) (by omega), nI_l (by omega), lN_mul, lN_add, lN_sub (by omega)]
      rw [ev]
      refine ih (i + 1) n _ (by omega) (by omega) (by omega) ?_
      rw [ew]
      obtain ⟨r1, r2, r3⟩ := hr
      have hw : tN T (i - st) st 0 ≤ 100000000 := by
        by_cases q : tN T (i - st) st 0 ≤ 100000000
        · exact q
        · have := r2 (by omega); omega
      have := r1 hw
      exact ⟨fun _ => by omega, fun _ => by omega, by omega⟩
    · rw [if_neg (fun e => c (hc.mp e))]
      refine ih (i + 1) n _ (by omega) (by omega) (by omega) ?_
      rw [ew]
      obtain ⟨r1, r2, r3⟩ := hr
      have hw : 100000000 < tN T (i - st) st 0 := by
        by_cases q : tN T (i - st) st 0 ≤ 100000000
        · have := r1 q; omega
        · omega
      exact ⟨fun _ => by omega, fun _ => by omega, r3⟩
theorem tK2 {st : Nat} (h : tK T L st = 2) : st < L ∧ tDi (tB T L st) = true ∧ tE T L st = tRun tDi T L 901 st := by
  unfold tK at h
  split at h
  · omega
  · rename_i c1
    split at h
    · omega
    · rename_i c2
      split at h
      · rename_i c3
        refine ⟨by omega, c3, ?_⟩
        unfold tE
        rw [if_neg c1, if_neg c2, if_pos c3]
      · split at h <;> omega
theorem tK_dig (st : Nat) : tDi (tB T L st) = decide (tK T L st = 2) := by
  unfold tK
  by_cases c1 : L ≤ st
  · rw [if_pos c1, tB_ge c1]; rfl
  · rw [if_neg c1]
    by_cases c2 : tLe (tB T L st) = true
    · rw [if_pos c2]
      unfold tLe at c2
      rw [Bool.and_eq_true, decide_eq_true_eq, decide_eq_true_eq] at c2
      unfold tDi
      rw [decide_eq_false (show ¬ tB T L st ≤ 57 by omega), Bool.and_false]; rfl
    · rw [if_neg c2]
      cases c3 : tDi (tB T L st)
      · rw [if_neg (by decide)]
        split <;> rfl
      · rw [if_pos rfl]; rfl
theorem m_digits (hT : tOk T L) {st : Nat} (h : mK T L st t) (hk : tK T L st = 2) : ∃ v, f_X12_digits t = some (lN v) ∧ nRel v (tV T L st) := by
  have hL := hT.1
  have hE := tE_le (T := T) hL h.2.1
  obtain ⟨_, _, e⟩ := tK2 hk
  have hr := tRun_spec (T := T) (L := L) (p := tDi) rfl 901 st (by omega) h.2.1
  rw [← e] at hr
  rw [fe_X12_digits]; unfold fb_X12_digits
  dsimp only
  rw [h.2.2.1, show (0 : Int32).toInt64 = lN 0 from rfl]
  exact m_digits_l hT h.1 hE.2 h.2.2.2 hr.2.2.2 (tE T L st - st) st ga_fuel 0 (by omega) (by have := d_fuel (n := 901) (by omega); omega) (Nat.le_refl _) (by rw [Nat.sub_self]; exact ⟨fun _ => rfl, fun q => by simp [tN] at q, by omega⟩)
theorem d_inL (v lo hi : Nat) (hv : v < 2147483648) (hlo : lo < 2147483648) (hhi : hi < 2147483648) : v_X12_in (lN v) (nI lo).toInt64 (nI hi).toInt64 s = aB (decide (lo ≤ v) && decide (v ≤ hi)) := by
  rw [ve_X12_in]; unfold vb_X12_in
  have e1 : (lg_cmp (lN v) (nI lo).toInt64 < 0) = (v < lo) := propext (by rw [lg_cmp_lt, nI_l (by omega), lN_lt (by omega) (by omega)])
  have e2 : (0 < lg_cmp (lN v) (nI hi).toInt64) = (hi < v) := propext (by rw [lg_cmp_gt, nI_l (by omega), lN_lt (by omega) (by omega)])
  simp only [e1, e2]
  by_cases c1 : v < lo
  · rw [if_pos c1, decide_eq_false (by omega)]; rfl
  · rw [if_neg c1, decide_eq_true (show lo ≤ v by omega)]
    by_cases c2 : hi < v
    · rw [if_pos c2, decide_eq_false (by omega)]; rfl
    · rw [if_neg c2, decide_eq_true (show v ≤ hi by omega)]; rfl
def tOkay (T : Nat → Nat) (L st : Nat) (s t : ga_M) : Prop := cK T L st s ∧ mK T L st t ∧ s 45 6 = 0 ∧ s 45 7 = -1 ∧ t 72 16 = 0 ∧ t 72 17 = -1
def tBad (s t : ga_M) : Prop := s 45 6 = t 72 16 ∧ s 45 7 = t 72 17 ∧ mZ t
theorem c_fail {st : Nat} (h : cK T L st s) (k : Int32) : v_X8_fail k s = (0, ga_up (ga_up s 45 6 k) 45 7 (nI st)) := by
  rw [ve_X8_fail]; unfold vb_X8_fail
  rw [ve_X10_fail]; unfold vb_X10_fail
  rw [h.2.2.2.1]
theorem m_wrong (h16 : t 72 16 = 0) (k : Int32) : v_X12_wrong k t = ga_up (ga_up t 72 16 k) 72 17 (t 72 13) := by
  rw [ve_X12_wrong]; unfold vb_X12_wrong
  rw [h16, if_pos (by decide)]
  dsimp only
  rw [d_up_nk (by omega)]
theorem l_fail {st : Nat} (h : tOkay T L st s t) {k : Nat} (h0 : 0 < k) (h10 : k < 10) : ∃ s2 t2, v_X8_fail (nI k) s = (0, s2) ∧ v_X12_wrong (nI k) t = t2 ∧ tBad s2 t2 ∧ tF s s2 ∧ mF t t2 := by
  obtain ⟨a, b, c, d, e, f⟩ := h
  rw [c_fail a, m_wrong e, b.2.2.1]
  refine ⟨_, _, rfl, rfl, ⟨?_, ?_, k, h0, h10, ?_⟩, fun x hx => by rw [d_up_ne hx, d_up_ne hx], ⟨fun x hx => by rw [d_up_ne hx, d_up_ne hx], fun x _ _ h3 h4 => by rw [d_up_nk (by omega), d_up_nk (by omega)]⟩⟩
  · rw [d_up_nk (by omega), d_up_eq, d_up_nk (by omega), d_up_eq]
  · rw [d_up_eq, d_up_eq]
  · rw [d_up_nk (by omega), d_up_eq]
theorem l_see (hT : tOk T L) {st lo hi : Nat} (hlo : lo ≤ 100000) (hhi : hi ≤ 100000) (h : tOkay T L st s t) :
    (tK T L st = 2 ∧ lo ≤ tV T L st ∧ tV T L st ≤ hi ∧ v_X8_checkNumber (nI lo) (nI hi) s = (1, s) ∧ s 45 5 = nI (tV T L st) ∧ f_X12_see (nI lo) (nI hi) t = some (nI (tV T L st), t)) ∨
    ∃ s2 t2, v_X8_checkNumber (nI lo) (nI hi) s = (0, s2) ∧ f_X12_see (nI lo) (nI hi) t = some (nI lo, t2) ∧ tBad s2 t2 ∧ tF s s2 ∧ mF t t2 := by
  have h' := h
  obtain ⟨a, b, c, d, e, f⟩ := h'
  have hL := hT.1
  have hst := a.2.1
  have h5 := tK_lt T L st
  rw [ve_X8_checkNumber, fe_X12_see]
  unfold vb_X8_checkNumber fb_X12_see
  rw [a.2.2.1, e, if_pos (show (0 : Int32) ≤ 0 by decide), b.2.2.1, m_isDigitAt hT b.1 (by omega), Option.bind_some, tK_dig]
  by_cases ck : tK T L st = 2
  · have e5 := a.2.2.2.2.2 ck
    rw [ck, decide_eq_true (show (2 : Nat) = 2 from rfl), if_pos (show nI 2 = 2 from rfl), if_neg (show ¬ aB true = 0 by decide), e5]
    obtain ⟨v, ev, hr⟩ := m_digits hT b ck
    have hv := hr.2.2
    rw [ev, Option.bind_some, d_inL v lo hi (by omega) (by omega) (by omega)]
    have e1 : (nI (min (tV T L st) 1000000) < nI lo) = (min (tV T L st) 1000000 < lo) := d_lt (by omega) (by omega)
    have e2 : (nI (min (tV T L st) 1000000) ≤ nI hi) = (min (tV T L st) 1000000 ≤ hi) := d_le (by omega) (by omega)
    simp only [e1, e2]
    obtain ⟨r1, r2, r3⟩ := hr
    by_cases c1 : lo ≤ tV T L st
    · by_cases c2 : tV T L st ≤ hi
      · left
        have hv2 := r1 (by omega)
        rw [if_neg (show ¬ min (tV T L st) 1000000 < lo by omega), if_pos (show min (tV T L st) 1000000 ≤ hi by omega), hv2, decide_eq_true c1, decide_eq_true c2]
        refine ⟨trivial, c1, c2, rfl, by congr 1; omega, ?_⟩
        rw [if_neg (show ¬ aB (true && true) = 0 by decide), Option.bind_some, lN_i, if_pos (show (0 : Int32) ≤ 0 by decide)]
      · right
        have hb : (decide (lo ≤ v) && decide (v ≤ hi)) = false := by
          rw [decide_eq_false (show ¬ v ≤ hi by
            by_cases q : tV T L st ≤ 100000000
            · have := r1 q; omega
            · have := r2 (by omega); omega), Bool.and_false]
        rw [if_neg (show ¬ min (tV T L st) 1000000 < lo by omega), if_neg (show ¬ min (tV T L st) 1000000 ≤ hi by omega), hb, if_pos (show aB false = 0 from rfl)]
        obtain ⟨s2, t2, g1, g2, g3, g4, g5⟩ := l_fail h (k := 2) (by omega) (by omega)
        rw [show v_X8_fail 2 s = (0, s2) from g1, show v_X12_wrong 2 t = t2 from g2, if_neg (z_le g3.2.2)]
        exact ⟨s2, t2, rfl, rfl, g3, g4, g5⟩
    · right
      have hb : (decide (lo ≤ v) && decide (v ≤ hi)) = false := by
        rw [decide_eq_false (show ¬ lo ≤ v by have := r1 (by omega); omega), Bool.false_and]
      rw [if_pos (show min (tV T L st) 1000000 < lo by omega), hb, if_pos (show aB false = 0 from rfl)]
      obtain ⟨s2, t2, g1, g2, g3, g4, g5⟩ := l_fail h (k := 2) (by omega) (by omega)
      rw [show v_X8_fail 2 s = (0, s2) from g1, show v_X12_wrong 2 t = t2 from g2, if_neg (z_le g3.2.2)]
      exact ⟨s2, t2, rfl, rfl, g3, g4, g5⟩
  · right
    rw [decide_eq_false ck, if_neg (show ¬ nI (tK T L st) = 2 from fun q => ck ((nI_eq (b := 2) (by omega) (by omega)).mp q)), if_pos (show aB false = 0 from rfl)]
    obtain ⟨s2, t2, g1, g2, g3, g4, g5⟩ := l_fail h (k := 1) (by omega) (by omega)
    dsimp only
    rw [show v_X8_fail 1 s = (0, s2) from g1, show v_X12_wrong 1 t = t2 from g2, if_neg (z_le g3.2.2)]
    exact ⟨s2, t2, rfl, rfl, g3, g4, g5⟩
theorem l_go (hT : tOk T L) {st : Nat} (h : tOkay T L st s t) : ∃ s2 t2, f_X10_next s = some s2 ∧ f_X8_takeNumber s = some (s 45 5, s2) ∧ f_X12_goOn t = some t2 ∧ f_X12_next t = some t2 ∧ tOkay T L (tX T L st) s2 t2 ∧ tF s s2 ∧ mF t t2 := by
  obtain ⟨a, b, c, d, e, f⟩ := h
  have hL := hT.1
  have hE := tE_le (T := T) hL a.2.1
  obtain ⟨s2, e2, k2, f2, x6, x7⟩ := c_next hT hE.2 a.1 a.2.2.2.2.1
  obtain ⟨t2, g2, n2, y6, y7, l2⟩ := m_next hT hE.2 b.1 b.2.2.2
  refine ⟨s2, t2, e2, ?_, ?_, g2, ⟨k2, l2, by rw [x6, c], by rw [x7, d], by rw [y6, e], by rw [y7, f]⟩, f2, n2⟩
  · rw [fe_X8_takeNumber]; unfold fb_X8_takeNumber
    rw [e2]; rfl
  · rw [fe_X12_goOn]; unfold fb_X12_goOn
    rw [e, if_pos rfl, g2]; rfl
theorem l_number (hT : tOk T L) {st lo hi : Nat} (hlo : lo ≤ 100000) (hhi : hi ≤ 100000) (h : tOkay T L st s t) :
    (lo ≤ tV T L st ∧ tV T L st ≤ hi ∧ v_X8_checkNumber (nI lo) (nI hi) s = (1, s) ∧ ∃ s2 t2, f_X8_takeNumber s = some (nI (tV T L st), s2) ∧ f_X12_number (nI lo) (nI hi) t = some (nI (tV T L st), t2) ∧ tOkay T L (tX T L st) s2 t2 ∧ tF s s2 ∧ mF t t2) ∨
    ∃ s2 t2, v_X8_checkNumber (nI lo) (nI hi) s = (0, s2) ∧ f_X12_number (nI lo) (nI hi) t = some (nI lo, t2) ∧ tBad s2 t2 ∧ tF s s2 ∧ mF t t2 := by
  rw [fe_X12_number]; unfold fb_X12_number
  rcases l_see hT hlo hhi h with ⟨ck, h1, h2, h3, h4, h5⟩ | ⟨s2, t2, h1, h2, h3, h4, h5⟩
  · obtain ⟨s2, t2, _, g1, g2, _, g3, g4, g5⟩ := l_go hT h
    left
    rw [h5, Option.bind_some]
    dsimp only
    rw [g2, Option.bind_some, ← h4]
    exact ⟨h1, h2, h3, s2, t2, g1, rfl, g3, g4, g5⟩
  · right
    rw [h2, Option.bind_some]
    dsimp only
    rw [z_goOn h3.2.2, Option.bind_some]
    exact ⟨s2, t2, h1, rfl, h3, h4, h5⟩
theorem l_word (hT : tOk T L) {st w w2 : Nat} {ws : List Nat} (hw : wOk w ws) (hw2 : wOk w2 ws) (hlet : tLe (ws.getD 0 0) = true) (h : tOkay T L st s t) :
    (tW T L st ws = true ∧ ∃ s2 t2, f_X8_takeWord w s = some (1, s2) ∧ f_X12_must w2 t = some t2 ∧ tOkay T L (tX T L st) s2 t2 ∧ tF s s2 ∧ mF t t2) ∨
    (tW T L st ws = false ∧ ∃ s2 t2, f_X8_takeWord w s = some (0, s2) ∧ f_X12_must w2 t = some t2 ∧ tBad s2 t2 ∧ tF s s2 ∧ mF t t2) := by
  rw [fe_X8_takeWord, fe_X12_must]
  unfold fb_X8_takeWord fb_X12_must
  rw [c_isWord hT h.1 hw hlet, m_isWord hT h.2.1 h.2.2.2.2.1 hw2, Option.bind_some, Option.bind_some]
  cases c : tW T L st ws
  · right
    obtain ⟨s2, t2, g1, g2, g3, g4, g5⟩ := l_fail h (k := 1) (by omega) (by omega)
    rw [if_pos (show aB false = 0 from rfl), if_pos (show aB false = 0 from rfl)]
    dsimp only
    rw [show v_X8_fail 1 s = (0, s2) from g1, show v_X12_wrong 1 t = t2 from g2, z_goOn g3.2.2, Option.bind_some]
    exact ⟨rfl, s2, t2, rfl, rfl, g3, g4, g5⟩
  · left
    obtain ⟨s2, t2, g0, _, g2, _, g3, g4, g5⟩ := l_go hT h
    rw [if_neg (show ¬ aB true = 0 by decide), if_neg (show ¬ aB true = 0 by decide), g0, g2, Option.bind_some, Option.bind_some]
    exact ⟨rfl, s2, t2, rfl, rfl, g3, g4, g5⟩
theorem w_semi : wOk 1039 [59] := ⟨rfl, by decide, by decide, fun i hi => by
  have : i = 0 := by simpa using hi
  subst this; decide⟩
theorem tW_semi (hT : tOk T L) {st : Nat} (hst : st ≤ L) : tW T L st [59] = decide (tK T L st = 3) := by
  unfold tW tE tK
  by_cases c1 : L ≤ st
  · rw [if_pos c1, if_pos c1, decide_eq_false (show ¬ L - st = [59].length by simp; omega)]; rfl
  · rw [if_neg c1, if_neg c1]
    have hb : (∀ i, i < [59].length → tB T L (st + i) = [59].getD i 0) ↔ tB T L st = 59 := by
      constructor
      · intro q; exact q 0 (by simp)
      · intro q i hi
        have : i = 0 := by simpa using hi
        subst this; exact q
    by_cases c4 : tB T L st = 59
    · rw [decide_eq_true (hb.mpr c4), c4]
      have e1 : tLe 59 = false := rfl
      have e2 : tDi 59 = false := rfl
      rw [e1, e2]
      simp
    · rw [decide_eq_false (fun q => c4 (hb.mp q)), Bool.and_false]
      have : ¬ (if tLe (tB T L st) = true then 1 else if tDi (tB T L st) = true then 2 else if tB T L st = 59 then 3 else 4) = 3 := by
        split
        · omega
        · split
          · omega
          · first | omega | (rw [if_neg c4]; omega)
      rw [decide_eq_false this]
theorem l_semi (hT : tOk T L) {st : Nat} (h : tOkay T L st s t) :
    (∃ s2 t2, f_X8_takeSemicolon s = some (1, s2) ∧ f_X12_must 1039 t = some t2 ∧ tOkay T L (tX T L st) s2 t2 ∧ tF s s2 ∧ mF t t2) ∨
    (∃ s2 t2, f_X8_takeSemicolon s = some (0, s2) ∧ f_X12_must 1039 t = some t2 ∧ tBad s2 t2 ∧ tF s s2 ∧ mF t t2) := by
  have h5 := tK_lt T L st
  rw [fe_X8_takeSemicolon, fe_X12_must]
  unfold fb_X8_takeSemicolon fb_X12_must
  rw [m_isWord hT h.2.1 h.2.2.2.2.1 w_semi, tW_semi hT h.1.2.1, Option.bind_some, h.1.2.2.1]
  by_cases c : tK T L st = 3
  · left
    obtain ⟨s2, t2, g0, _, g2, _, g3, g4, g5⟩ := l_go hT h
    rw [c, decide_eq_true (show (3 : Nat) = 3 from rfl), if_pos (show nI 3 = 3 from rfl), if_neg (show ¬ aB true = 0 by decide), g0, g2, Option.bind_some, Option.bind_some]
    exact ⟨s2, t2, rfl, rfl, g3, g4, g5⟩
  · right
    obtain ⟨s2, t2, g1, g2, g3, g4, g5⟩ := l_fail h (k := 1) (by omega) (by omega)
    rw [decide_eq_false c, if_neg (show ¬ nI (tK T L st) = 3 from fun q => c ((nI_eq (b := 3) (by omega) (by omega)).mp q)), if_pos (show aB false = 0 from rfl)]
    dsimp only
    rw [show v_X8_fail 1 s = (0, s2) from g1, show v_X12_wrong 1 t = t2 from g2, z_goOn g3.2.2, Option.bind_some]
    exact ⟨s2, t2, rfl, rfl, g3, g4, g5⟩
end D45
