section D47
/-! ===== the school's text: both read it alike ===== -/
variable {T : Nat → Nat} {L : Nat} {N : Nat → Nat} {Q : Nat → Nat → Int32} {s t : ga_M}
def pFc (s0 s : ga_M) : Prop := ∀ c, c ≠ 45 → (c ≤ 48 ∨ 68 ≤ c) → s c = s0 c
def pFm (t0 t : ga_M) : Prop := (∀ c, c ≠ 72 → c ≠ 74 → t c = t0 c) ∧ ∀ f, f ≠ 13 → f ≠ 14 → f ≠ 16 → f ≠ 17 → t 72 f = t0 72 f
theorem pFc_refl (s : ga_M) : pFc s s := fun _ _ _ => rfl
theorem pFm_refl (s : ga_M) : pFm s s := ⟨fun _ _ _ => rfl, fun _ _ _ _ _ => rfl⟩
theorem pFc_trans {s s1 s2 : ga_M} (h : pFc s s1) (h2 : pFc s1 s2) : pFc s s2 := fun c a b => (h2 c a b).trans (h c a b)
theorem pFm_trans {s s1 s2 : ga_M} (h : pFm s s1) (h2 : pFm s1 s2) : pFm s s2 := ⟨fun c a b => (h2.1 c a b).trans (h.1 c a b), fun f a b c d => (h2.2 f a b c d).trans (h.2 f a b c d)⟩
theorem pFc_t {s s1 : ga_M} (h : tF s s1) : pFc s s1 := fun c a _ => h c a
theorem pFm_m {s s1 : ga_M} (h : mF s s1) : pFm s s1 := ⟨fun c a _ => h.1 c a, h.2⟩
theorem pFm_up (t : ga_M) (k : Nat) (v : Int32) : pFm t (ga_up t 74 k v) := ⟨fun c _ a => d_up_ne a, fun f _ _ _ _ => by rw [d_up_ne (by decide)]⟩
theorem pFc_up (s : ga_M) (k : Nat) (v : Int32) : pFc s (ga_up s 49 k v) := fun c _ a => d_up_ne (by omega)
def pOk (T : Nat → Nat) (L st : Nat) (N : Nat → Nat) (Q : Nat → Nat → Int32) (s t : ga_M) : Prop := tOkay T L st s t ∧ dC2 49 N Q s ∧ dM2 74 N Q t
theorem tOkay_c {st : Nat} {s2 t2 : ga_M} (e1 : s2 45 = s 45) (e2 : s2 47 = s 47) (e3 : t2 72 = t 72) (e4 : t2 80 = t 80) (h : tOkay T L st s t) : tOkay T L st s2 t2 := by
  unfold tOkay cK mK cX mX at *
  rw [e1, e2, e3, e4]; exact h
theorem dC2_t {s2 : ga_M} (f : tF s s2) (h : dC2 49 N Q s) : dC2 49 N Q s2 := ⟨fun k hk => by rw [f 49 (by omega)]; exact h.1 k hk, fun a ha ha9 k hk => by rw [f _ (by omega)]; exact h.2 a ha ha9 k hk⟩
theorem dM2_m {t2 : ga_M} (f : mF t t2) (h : dM2 74 N Q t) : dM2 74 N Q t2 := ⟨fun k hk => by rw [f.1 74 (by omega)]; exact h.1 k hk, fun a ha ha9 k hk => by rw [f.1 74 (by omega)]; exact h.2 a ha ha9 k hk⟩
theorem tBad_t {t2 : ga_M} (e : t2 72 = t 72) (h : tBad s t) : tBad s t2 := by
  unfold tBad mZ at *; rw [e]; exact h
theorem p_word (hT : tOk T L) {st w w2 : Nat} {ws : List Nat} (hw : wOk w ws) (hw2 : wOk w2 ws) (hlet : tLe (ws.getD 0 0) = true) (h : pOk T L st N Q s t) :
    (tW T L st ws = true ∧ ∃ s2 t2, f_X8_takeWord w s = some (1, s2) ∧ f_X12_must w2 t = some t2 ∧ pOk T L (tX T L st) N Q s2 t2 ∧ pFc s s2 ∧ pFm t t2) ∨
    (tW T L st ws = false ∧ ∃ s2 t2, f_X8_takeWord w s = some (0, s2) ∧ f_X12_must w2 t = some t2 ∧ tBad s2 t2 ∧ pFc s s2 ∧ pFm t t2) := by
  rcases l_word hT hw hw2 hlet h.1 with ⟨h0, s2, t2, h1, h2, h3, h4, h5⟩ | ⟨h0, s2, t2, h1, h2, h3, h4, h5⟩
  · exact Or.inl ⟨h0, s2, t2, h1, h2, ⟨h3, dC2_t h4 h.2.1, dM2_m h5 h.2.2⟩, pFc_t h4, pFm_m h5⟩
  · exact Or.inr ⟨h0, s2, t2, h1, h2, h3, pFc_t h4, pFm_m h5⟩
theorem p_semi (hT : tOk T L) {st : Nat} (h : pOk T L st N Q s t) :
    (∃ s2 t2, f_X8_takeSemicolon s = some (1, s2) ∧ f_X12_must 1039 t = some t2 ∧ pOk T L (tX T L st) N Q s2 t2 ∧ pFc s s2 ∧ pFm t t2) ∨
    (∃ s2 t2, f_X8_takeSemicolon s = some (0, s2) ∧ f_X12_must 1039 t = some t2 ∧ tBad s2 t2 ∧ pFc s s2 ∧ pFm t t2) := by
  rcases l_semi hT h.1 with ⟨s2, t2, h1, h2, h3, h4, h5⟩ | ⟨s2, t2, h1, h2, h3, h4, h5⟩
  · exact Or.inl ⟨s2, t2, h1, h2, ⟨h3, dC2_t h4 h.2.1, dM2_m h5 h.2.2⟩, pFc_t h4, pFm_m h5⟩
  · exact Or.inr ⟨s2, t2, h1, h2, h3, pFc_t h4, pFm_m h5⟩
theorem p_number (hT : tOk T L) {st lo hi : Nat} (hlo : lo ≤ 100000) (hhi : hi ≤ 100000) (h : pOk T L st N Q s t) :
    (∃ v, lo ≤ v ∧ v ≤ hi ∧ v_X8_checkNumber (nI lo) (nI hi) s = (1, s) ∧ ∃ s2 t2, f_X8_takeNumber s = some (nI v, s2) ∧ f_X12_number (nI lo) (nI hi) t = some (nI v, t2) ∧ pOk T L (tX T L st) N Q s2 t2 ∧ pFc s s2 ∧ pFm t t2) ∨
    ∃ s2 t2, v_X8_checkNumber (nI lo) (nI hi) s = (0, s2) ∧ f_X12_number (nI lo) (nI hi) t = some (nI lo, t2) ∧ tBad s2 t2 ∧ pFc s s2 ∧ pFm t t2 := by
  rcases l_number hT hlo hhi h.1 with ⟨h1, h2, h3, s2, t2, h4, h5, h6, h7, h8⟩ | ⟨s2, t2, h1, h2, h3, h4, h5⟩
  · exact Or.inl ⟨_, h1, h2, h3, s2, t2, h4, h5, ⟨h6, dC2_t h7 h.2.1, dM2_m h8 h.2.2⟩, pFc_t h7, pFm_m h8⟩
  · exact Or.inr ⟨s2, t2, h1, h2, h3, pFc_t h4, pFm_m h5⟩
theorem p_see (hT : tOk T L) {st lo hi : Nat} (hlo : lo ≤ 100000) (hhi : hi ≤ 100000) (h : pOk T L st N Q s t) :
    (∃ v, lo ≤ v ∧ v ≤ hi ∧ v_X8_checkNumber (nI lo) (nI hi) s = (1, s) ∧ s 45 5 = nI v ∧ f_X12_see (nI lo) (nI hi) t = some (nI v, t)) ∨
    ∃ s2 t2, v_X8_checkNumber (nI lo) (nI hi) s = (0, s2) ∧ f_X12_see (nI lo) (nI hi) t = some (nI lo, t2) ∧ tBad s2 t2 ∧ pFc s s2 ∧ pFm t t2 := by
  rcases l_see hT hlo hhi h.1 with ⟨_, h1, h2, h3, h4, h5⟩ | ⟨s2, t2, h1, h2, h3, h4, h5⟩
  · exact Or.inl ⟨_, h1, h2, h3, h4, h5⟩
  · exact Or.inr ⟨s2, t2, h1, h2, h3, pFc_t h4, pFm_m h5⟩
theorem p_go (hT : tOk T L) {st : Nat} (h : pOk T L st N Q s t) : ∃ s2 t2, f_X10_next s = some s2 ∧ f_X8_takeNumber s = some (s 45 5, s2) ∧ f_X12_goOn t = some t2 ∧ pOk T L (tX T L st) N Q s2 t2 ∧ pFc s s2 ∧ pFm t t2 := by
  obtain ⟨s2, t2, h1, h2, h3, _, h4, h5, h6⟩ := l_go hT h.1
  exact ⟨s2, t2, h1, h2, h3, ⟨h4, dC2_t h5 h.2.1, dM2_m h6 h.2.2⟩, pFc_t h5, pFm_m h6⟩
theorem p_fail {st : Nat} (h : pOk T L st N Q s t) {k : Nat} (h0 : 0 < k) (h10 : k < 10) : ∃ s2 t2, v_X8_fail (nI k) s = (0, s2) ∧ v_X12_wrong (nI k) t = t2 ∧ tBad s2 t2 ∧ pFc s s2 ∧ pFm t t2 := by
  obtain ⟨s2, t2, h1, h2, h3, h4, h5⟩ := l_fail h.1 h0 h10
  exact ⟨s2, t2, h1, h2, h3, pFc_t h4, pFm_m h5⟩
theorem p_set {st i : Nat} (hi : i = 0 ∨ i = 1 ∨ i = 5) (v : Nat) (h : pOk T L st N Q s t) : pOk T L st (nU N i v) Q (ga_up s 49 i (nI v)) (ga_up t 74 i (nI v)) := by
  have hg : ∀ a, 1 ≤ a → a ≤ 9 → gov a ≠ i := fun a h1 h9 => by
    have := gov_no a (by omega) h1
    rcases hi with rfl | rfl | rfl
    · exact this.1
    · exact this.2.1
    · exact this.2.2
  exact ⟨tOkay_c (d_up_ne (by decide)) (d_up_ne (by decide)) (d_up_ne (by decide)) (d_up_ne (by decide)) h.1, dC2_cnt (by omega) h.2.1 (Or.inr (Or.inr hg)), dM2_cnt (by omega) h.2.2 (Or.inr (Or.inr hg))⟩
def pR (T : Nat → Nat) (L : Nat) (s0 t0 : ga_M) (c : Option (Int32 × ga_M)) (m : Option ga_M) (G : (Nat → Nat) → (Nat → Nat → Int32) → Prop) : Prop :=
  (∃ st N Q s t, c = some (1, s) ∧ m = some t ∧ pOk T L st N Q s t ∧ pFc s0 s ∧ pFm t0 t ∧ G N Q) ∨ ∃ s t, c = some (0, s) ∧ m = some t ∧ tBad s t ∧ pFc s0 s ∧ pFm t0 t
theorem w_grid : wOk 1000 [103, 114, 105, 100] := ⟨rfl, by decide, by decide, by decide⟩
theorem w_grid2 : wOk 1038 [103, 114, 105, 100] := ⟨rfl, by decide, by decide, by decide⟩
theorem w_subject : wOk 1001 [115, 117, 98, 106, 101, 99, 116] := ⟨rfl, by decide, by decide, by decide⟩
theorem w_subject2 : wOk 1040 [115, 117, 98, 106, 101, 99, 116] := ⟨rfl, by decide, by decide, by decide⟩
theorem w_teacher : wOk 1002 [116, 101, 97, 99, 104, 101, 114] := ⟨rfl, by decide, by decide, by decide⟩
theorem w_teacher2 : wOk 1041 [116, 101, 97, 99, 104, 101, 114] := ⟨rfl, by decide, by decide, by decide⟩
theorem w_room : wOk 1003 [114, 111, 111, 109] := ⟨rfl, by decide, by decide, by decide⟩
theorem w_room2 : wOk 1042 [114, 111, 111, 109] := ⟨rfl, by decide, by decide, by decide⟩
theorem w_classes : wOk 1004 [99, 108, 97, 115, 115, 101, 115] := ⟨rfl, by decide, by decide, by decide⟩
theorem w_classes2 : wOk 1043 [99, 108, 97, 115, 115, 101, 115] := ⟨rfl, by decide, by decide, by decide⟩
theorem w_lesson : wOk 1005 [108, 101, 115, 115, 111, 110] := ⟨rfl, by decide, by decide, by decide⟩
theorem w_lesson2 : wOk 1044 [108, 101, 115, 115, 111, 110] := ⟨rfl, by decide, by decide, by decide⟩
/-- the reference's grid -/
noncomputable def rGrid (t : ga_M) : Option ga_M :=
  (f_X12_must 1038 t).bind fun s102 => (f_X12_number 1 5 s102).bind fun q103 => (f_X12_number 1 6 (ga_up q103.2 74 0 q103.1)).bind fun q105 => f_X12_must 1039 (ga_up q105.2 74 1 q105.1)
theorem z_up {k : Nat} {v : Int32} (h : mZ t) : mZ (ga_up t 74 k v) := by
  unfold mZ at *; rw [d_up_ne (by decide)]; exact h
theorem l_grid (hT : tOk T L) {st : Nat} (h : pOk T L st N Q s t) : pR T L s t (f_X8_readGrid s) (rGrid t) (fun N2 Q2 => Q2 = Q ∧ ∃ d p, (1 ≤ d ∧ d ≤ 5) ∧ (1 ≤ p ∧ p ≤ 6) ∧ N2 = nU (nU N 0 d) 1 p) := by
  rw [fe_X8_readGrid]; unfold fb_X8_readGrid rGrid
  rcases p_word hT w_grid w_grid2 rfl h with ⟨_, s1, t1, a1, a2, a3, a4, a5⟩ | ⟨_, s1, t1, a1, a2, a3, a4, a5⟩
  · rw [a1, a2, Option.bind_some, Option.bind_some]
    dsimp only
    rw [if_neg (show ¬ (1 : Int32) = 0 by decide)]
    rcases p_number hT (lo := 1) (hi := 5) (by omega) (by omega) a3 with ⟨d, d1, d5, b1, s2, t2, b2, b3, b4, b5, b6⟩ | ⟨s2, t2, b1, b2, b3, b4, b5⟩
    · rw [show v_X8_checkNumber 1 5 s1 = (1, s1) from b1, show f_X12_number 1 5 t1 = some (nI d, t2) from b3]
      dsimp only
      rw [if_neg (show ¬ (1 : Int32) = 0 by decide), b2, Option.bind_some, Option.bind_some]
      have b4' := p_set (i := 0) (by omega) d b4
      dsimp only
      rcases p_number hT (lo := 1) (hi := 6) (by omega) (by omega) b4' with ⟨p, p1, p6, c1, s3, t3, c2, c3, c4, c5, c6⟩ | ⟨s3, t3, c1, c2, c3, c4, c5⟩
      · rw [show v_X8_checkNumber 1 6 (ga_up s2 49 0 (nI d)) = (1, ga_up s2 49 0 (nI d)) from c1, show f_X12_number 1 6 (ga_up t2 74 0 (nI d)) = some (nI p, t3) from c3]
        dsimp only
        rw [if_neg (show ¬ (1 : Int32) = 0 by decide), c2, Option.bind_some, Option.bind_some]
        have c4' := p_set (i := 1) (by omega) p c4
        dsimp only
        rcases p_semi hT c4' with ⟨s4, t4, e1, e2, e3, e4, e5⟩ | ⟨s4, t4, e1, e2, e3, e4, e5⟩
        · rw [e1, e2, Option.bind_some]
          exact Or.inl ⟨_, _, _, s4, t4, rfl, rfl, e3, pFc_trans a4 (pFc_trans b5 (pFc_trans (pFc_up _ _ _) (pFc_trans c5 (pFc_trans (pFc_up _ _ _) e4)))), pFm_trans a5 (pFm_trans b6 (pFm_trans (pFm_up _ _ _) (pFm_trans c6 (pFm_trans (pFm_up _ _ _) e5)))), rfl, d, p, ⟨d1, d5⟩, ⟨p1, p6⟩, rfl⟩
        · rw [e1, e2, Option.bind_some]
          exact Or.inr ⟨s4, t4, rfl, rfl, e3, pFc_trans a4 (pFc_trans b5 (pFc_trans (pFc_up _ _ _) (pFc_trans c5 (pFc_trans (pFc_up _ _ _) e4)))), pFm_trans a5 (pFm_trans b6 (pFm_trans (pFm_up _ _ _) (pFm_trans c6 (pFm_trans (pFm_up _ _ _) e5))))⟩
      · rw [show v_X8_checkNumber 1 6 (ga_up s2 49 0 (nI d)) = (0, s3) from c1, show f_X12_number 1 6 (ga_up t2 74 0 (nI d)) = some (1, t3) from c2]
        dsimp only
        rw [if_pos rfl, Option.bind_some, z_must (z_up c3.2.2) w_semi]
        exact Or.inr ⟨s3, _, rfl, rfl, tBad_t (d_up_ne (by decide)) c3, pFc_trans a4 (pFc_trans b5 (pFc_trans (pFc_up _ _ _) c4)), pFm_trans a5 (pFm_trans b6 (pFm_trans (pFm_up _ _ _) (pFm_trans c5 (pFm_up _ _ _))))⟩
    · rw [show v_X8_checkNumber 1 5 s1 = (0, s2) from b1, show f_X12_number 1 5 t1 = some (1, t2) from b2]
      dsimp only
      rw [if_pos rfl, Option.bind_some, z_number (z_up b3.2.2), Option.bind_some]
      dsimp only
      rw [z_must (z_up (z_up b3.2.2)) w_semi]
      exact Or.inr ⟨s2, _, rfl, rfl, tBad_t (by rw [d_up_ne (by decide), d_up_ne (by decide)]) b3, pFc_trans a4 b4, pFm_trans a5 (pFm_trans b5 (pFm_trans (pFm_up _ _ _) (pFm_up _ _ _)))⟩
  · rw [a1, a2, Option.bind_some, Option.bind_some]
    dsimp only
    rw [if_pos rfl, z_number a3.2.2, Option.bind_some]
    dsimp only
    rw [z_number (z_up a3.2.2), Option.bind_some]
    dsimp only
    rw [z_must (z_up (z_up a3.2.2)) w_semi]
    exact Or.inr ⟨s1, _, rfl, rfl, tBad_t (by rw [d_up_ne (by decide), d_up_ne (by decide)]) a3, a4, pFm_trans a5 (pFm_trans (pFm_up _ _ _) (pFm_up _ _ _))⟩
/-- the reference's classes -/
noncomputable def rClasses (t : ga_M) : Option ga_M := (f_X12_must 1043 t).bind fun s111 => (f_X12_number 1 6 s111).bind fun q112 => f_X12_must 1039 (ga_up q112.2 74 5 q112.1)
theorem l_classes (hT : tOk T L) {st : Nat} (h : pOk T L st N Q s t) : pR T L s t (f_X8_readClasses s) (rClasses t) (fun N2 Q2 => Q2 = Q ∧ ∃ d, (1 ≤ d ∧ d ≤ 6) ∧ N2 = nU N 5 d) := by
  rw [fe_X8_readClasses]; unfold fb_X8_readClasses rClasses
  rcases p_word hT w_classes w_classes2 rfl h with ⟨_, s1, t1, a1, a2, a3, a4, a5⟩ | ⟨_, s1, t1, a1, a2, a3, a4, a5⟩
  · rw [a1, a2, Option.bind_some, Option.bind_some]
    dsimp only
    rw [if_neg (show ¬ (1 : Int32) = 0 by decide)]
    rcases p_number hT (lo := 1) (hi := 6) (by omega) (by omega) a3 with ⟨d, d1, d5, b1, s2, t2, b2, b3, b4, b5, b6⟩ | ⟨s2, t2, b1, b2, b3, b4, b5⟩
    · rw [show v_X8_checkNumber 1 6 s1 = (1, s1) from b1, show f_X12_number 1 6 t1 = some (nI d, t2) from b3]
      dsimp only
      rw [if_neg (show ¬ (1 : Int32) = 0 by decide), b2, Option.bind_some, Option.bind_some]
      have b4' := p_set (i := 5) (by omega) d b4
      dsimp only
      rcases p_semi hT b4' with ⟨s4, t4, e1, e2, e3, e4, e5⟩ | ⟨s4, t4, e1, e2, e3, e4, e5⟩
      · rw [e1, e2, Option.bind_some]
        exact Or.inl ⟨_, _, _, s4, t4, rfl, rfl, e3, pFc_trans a4 (pFc_trans b5 (pFc_trans (pFc_up _ _ _) e4)), pFm_trans a5 (pFm_trans b6 (pFm_trans (pFm_up _ _ _) e5)), rfl, d, ⟨d1, d5⟩, rfl⟩
      · rw [e1, e2, Option.bind_some]
        exact Or.inr ⟨s4, t4, rfl, rfl, e3, pFc_trans a4 (pFc_trans b5 (pFc_trans (pFc_up _ _ _) e4)), pFm_trans a5 (pFm_trans b6 (pFm_trans (pFm_up _ _ _) e5))⟩
    · rw [show v_X8_checkNumber 1 6 s1 = (0, s2) from b1, show f_X12_number 1 6 t1 = some (1, t2) from b2]
      dsimp only
      rw [if_pos rfl, Option.bind_some, z_must (z_up b3.2.2) w_semi]
      exact Or.inr ⟨s2, _, rfl, rfl, tBad_t (d_up_ne (by decide)) b3, pFc_trans a4 b4, pFm_trans a5 (pFm_trans b5 (pFm_up _ _ _))⟩
  · rw [a1, a2, Option.bind_some, Option.bind_some]
    dsimp only
    rw [if_pos rfl, z_number a3.2.2, Option.bind_some]
    dsimp only
    rw [z_must (z_up a3.2.2) w_semi]
    exact Or.inr ⟨s1, _, rfl, rfl, tBad_t (d_up_ne (by decide)) a3, a4, pFm_trans a5 (pFm_up _ _ _)⟩
end D47
