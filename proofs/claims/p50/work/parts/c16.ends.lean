section E6
/-! ===== the ends of a round of the law ===== -/
variable {P P0 : Nat → Nat → Int32} {s : ga_M} {m : Nat} {H : Nat → Nat → Nat → Int32} {xs : Nat → Int32} {LN : Nat}
/-- where the desk stands: the plan, the plans behind it -/
def JI (P : Nat → Nat → Int32) (m : Nat) (H : Nat → Nat → Nat → Int32) (s : ga_M) : Prop := dW kN kQ P ∧ kV kN kQ P ∧ m ≤ 10 ∧ (∀ p, p < m → dW kN kQ (H p) ∧ kV kN kQ (H p)) ∧ dZ kN kQ P m H s
def kG (go : Int32 → Int32 → ga_M → Option (Int32 × ga_M)) (k : Nat) : Prop := ∀ P m H s, JI P m H s → ∃ r, go (nI m) (nI (k + 1)) s = some (1, r)
def b12 (P : Nat → Nat → Int32) : Int32 := dCt (fun k => decide (P 1 k = -1)) (kN 6)
def b13 (P : Nat → Nat → Int32) : Int32 := dCt (fun k => decide (P 3 k = 1)) (kN 6)
def b15 (P : Nat → Nat → Int32) : Int32 := nI (wT kN kQ P (nI 0) (dSl kN)).length
theorem hN_le {m : Nat} (h : m ≤ 10) : hN m ≤ 10 ∧ 1 ≤ hN m := by
  unfold hN; split <;> omega
theorem hH_last {m : Nat} (h : m ≤ 10) (H : Nat → Nat → Nat → Int32) (P : Nat → Nat → Int32) : hH m H P (hN m - 1) = P := by
  unfold hH hN
  by_cases c : m < 10
  · rw [if_pos c, if_pos c, if_pos (by omega)]
  · rw [if_neg c, if_neg c, if_pos (by omega)]
theorem JI_push {P2 : Nat → Nat → Int32} {s1 : ga_M} (h : JI P m H s) (h1 : dW kN kQ P2) (h2 : kV kN kQ P2) (hz : dZ kN kQ P2 (hN m) (hH m H P) s1) : JI P2 (hN m) (hH m H P) s1 := by
  obtain ⟨a1, a2, a3, a4, a5⟩ := h
  refine ⟨h1, h2, (hN_le a3).1, fun p hp => ?_, hz⟩
  unfold hN at hp
  unfold hH
  by_cases c : m < 10
  · rw [if_pos c] at hp ⊢
    by_cases e : p = m
    · rw [if_pos e]; exact ⟨a1, a2⟩
    · rw [if_neg e]; exact a4 p (by omega)
  · rw [if_neg c] at hp ⊢
    by_cases e : p = 9
    · rw [if_pos e]; exact ⟨a1, a2⟩
    · rw [if_neg e]; exact a4 (p + 1) (by omega)
theorem JI_z {s1 : ga_M} (h : JI P m H s) (hz : dZ kN kQ P m H s1) : JI P m H s1 := ⟨h.1, h.2.1, h.2.2.1, h.2.2.2.1, hz⟩
theorem k_10 : ((1 : Int32) = 0) = False := eq_false (by decide)
/-- nothing was changed -/
theorem e1179_0 (h : JI P m H s) {k : Nat} {go : Int32 → Int32 → ga_M → Option (Int32 × ga_M)} (hg : kG go k) (c l5 l10 l11 l12 l13 l14 l15 : Int32) :
    ∃ r, f_L_law2_j1179 xs LN go (nI m) (nI k) c l5 l10 l11 l12 l13 l14 l15 0 s = some (1, r) := by
  obtain ⟨s1, e1, z1⟩ := k_holds h.1 h.2.1 h.2.2.2.2
  obtain ⟨r, er⟩ := hg P m H s1 (JI_z h z1)
  refine ⟨r, ?_⟩
  rw [fe_L_law2_j1179]; unfold fb_L_law2_j1179
  rw [x_depth h.2.2.2.2, if_pos rfl, e1, Option.bind_some]
  dsimp only
  rw [if_neg (by decide), if_pos rfl, nI_1]
  exact er
/-- something was changed: perhaps it's undone -/
theorem e1179_1 (h : JI P m H s) (hm : 1 ≤ m) (hP0 : H (m - 1) = P0) {k : Nat} {go : Int32 → Int32 → ga_M → Option (Int32 × ga_M)} (hg : kG go k) (c : Int32) {a : Nat} (ha : a < 7) :
    ∃ r, f_L_law2_j1179 xs LN go (nI m) (nI k) c (nI a) (P0 0 a) (P0 1 a) (b12 P0) (b13 P0) (aDiffs kN kQ P0) (b15 P0) 1 s = some (1, r) := by
  obtain ⟨s1, e1, z1⟩ := k_holds h.1 h.2.1 h.2.2.2.2
  by_cases c1 : ((c.toUInt32 >>> ((29 : Int32).toUInt32 &&& Int32.toUInt32 31)).toInt32 &&& 3) = 1
  · obtain ⟨s2, e2, z2⟩ := y_undo h.1 z1 (by omega) h.2.2.1
    rw [hP0] at z2
    obtain ⟨w1, w2⟩ := h.2.2.2.1 (m - 1) (by omega)
    rw [hP0] at w1 w2
    have q7 := x_count7 w1 z2.1
    have q8 := x_count8 w1 z2.1
    have q9 := x_count9 w1 z2.1
    have q0 := x_lesson0 w1 z2.1 (i := a) ha
    have q3 := x_lesson3 w1 z2.1 (i := a) ha
    obtain ⟨s3, e3, f3⟩ := x_report w1 z2.1 (g := 0) (by decide)
    have z3 := zF_Z (zF_r f3) z2
    obtain ⟨r, er⟩ := hg P0 (m - 1) H s3 ⟨w1, w2, by have := h.2.2.1; omega, fun p hp => h.2.2.2.1 p (by omega), z3⟩
    refine ⟨r, ?_⟩
    have hd : nI m + (-1) = nI (m - 1) := by
      have := pk_m1 (m - 1)
      rw [show m - 1 + 1 = m by omega] at this
      exact this
    rw [fe_L_law2_j1179]; unfold fb_L_law2_j1179
    rw [x_depth h.2.2.2.2, if_pos rfl, e1, Option.bind_some]
    dsimp only
    rw [if_neg (by decide), if_neg (by decide), if_pos c1, hd, e2, Option.bind_some]
    dsimp only
    rw [Sum.elim_inl, if_pos rfl, q7, Option.bind_some, Sum.elim_inl, if_pos (show dCt (fun k => decide (P0 1 k = -1)) (kN 6) = b12 P0 from rfl), q8, Option.bind_some, Sum.elim_inl, if_pos (show dCt (fun k => decide (P0 3 k = 1)) (kN 6) = b13 P0 from rfl), q9, Option.bind_some, Sum.elim_inl, if_pos rfl,
      q0, Option.bind_some, Sum.elim_inl, if_pos rfl, q3, Option.bind_some, Sum.elim_inl, if_pos rfl, show (0 : Int32) = nI 0 from rfl, e3, Option.bind_some]
    dsimp only
    rw [Sum.elim_inl, if_pos (show nI (wT kN kQ P0 (nI 0) (dSl kN)).length = b15 P0 from rfl), nI_1]
    exact er
  · obtain ⟨r, er⟩ := hg P m H s1 (JI_z h z1)
    refine ⟨r, ?_⟩
    rw [fe_L_law2_j1179]; unfold fb_L_law2_j1179
    rw [x_depth h.2.2.2.2, if_pos rfl, e1, Option.bind_some]
    dsimp only
    rw [if_neg (by decide), if_neg (by decide), if_neg c1, nI_1]
    exact er
theorem e1165_0 (h : JI P m H s) {k : Nat} {go : Int32 → Int32 → ga_M → Option (Int32 × ga_M)} (hg : kG go k) (c l5 l10 l11 l12 l13 l14 l15 : Int32) :
    ∃ r, f_L_law2_j1165 xs LN go (nI m) (nI k) c l5 l10 l11 l12 l13 l14 l15 0 s = some (1, r) := by
  obtain ⟨r, er⟩ := e1179_0 (xs := xs) (LN := LN) h hg c l5 l10 l11 l12 l13 l14 l15
  refine ⟨r, ?_⟩
  rw [fe_L_law2_j1165]; unfold fb_L_law2_j1165
  rw [if_pos rfl]
  exact er
theorem e1165_1 {P2 : Nat → Nat → Int32} {s1 : ga_M} (h : JI P m H s) (h1 : dW kN kQ P2) (h2 : kV kN kQ P2) (hz : dZ kN kQ P2 (hN m) (hH m H P) s1) {k : Nat} {go : Int32 → Int32 → ga_M → Option (Int32 × ga_M)} (hg : kG go k) (c : Int32) {a : Nat} (ha : a < 7) :
    ∃ r, f_L_law2_j1165 xs LN go (nI m) (nI k) c (nI a) (P 0 a) (P 1 a) (b12 P) (b13 P) (aDiffs kN kQ P) (b15 P) 1 s1 = some (1, r) := by
  have hm := h.2.2.1
  obtain ⟨r, er⟩ := e1179_1 (xs := xs) (LN := LN) (JI_push h h1 h2 hz) (hN_le hm).2 (hH_last hm H P) hg c ha
  refine ⟨r, ?_⟩
  rw [fe_L_law2_j1165]; unfold fb_L_law2_j1165
  rw [if_neg (by decide)]
  dsimp only
  have e : v_J9_min_7cf53 10 (nI m + 1) s1 = nI (hN m) := by
    rw [d_min, nI_1]
    unfold hN
    by_cases c1 : m < 10
    · rw [if_pos c1]
      by_cases c2 : m + 1 < 10
      · rw [if_pos (show nI (m + 1) < (10 : Int32) from nI_lt (b := 10) c2 (by omega))]
      · rw [if_neg (show ¬ nI (m + 1) < (10 : Int32) from nI_nlt (b := 10) (by omega) (by omega)), show m + 1 = 10 by omega]; rfl
    · rw [if_neg c1, if_neg (show ¬ nI (m + 1) < (10 : Int32) from nI_nlt (b := 10) (by omega) (by omega))]; rfl
  rw [e]
  exact er
end E6
