section E5
/-! ===== the timetable holds ===== -/
variable {P : Nat → Nat → Int32} {s : ga_M} {m : Nat} {H : Nat → Nat → Nat → Int32}
theorem k_ofClass (hW : dW kN kQ P) (hV : kV kN kQ P) {k : Nat} (hk : k < 7) : aAtC kN kQ P (P 0 k) (kQ 5 k) = nI k := by
  unfold aAtC
  refine dFind_some (by decide) (show k < kN 6 from hk) (by simp) (fun j hj hp => ?_)
  rw [Bool.and_eq_true, decide_eq_true_eq, decide_eq_true_eq] at hp
  by_cases c : j = k
  · exact c
  · exact absurd hp.2 (hV.1 j k hj hk c hp.1)
theorem k_inRoom (hW : dW kN kQ P) {k : Nat} (hk : k < 7) : aAt kN P 2 (P 0 k) (P 2 k) = nI k := by
  unfold aAt
  refine dFind_some (by decide) (show k < kN 6 from hk) (by simp) (fun j hj hp => ?_)
  rw [Bool.and_eq_true, decide_eq_true_eq, decide_eq_true_eq] at hp
  exact dWP_r hW.2.2 hj hk hp.1 hp.2
theorem k_ofTeacher (hW : dW kN kQ P) {k t : Nat} (hk : k < 7) (ht : t < 4) (e : P 1 k = nI t) : aAt kN P 1 (P 0 k) (nI t) = nI k := by
  unfold aAt
  refine dFind_some (by decide) (show k < kN 6 from hk) (by simp [e]) (fun j hj hp => ?_)
  rw [Bool.and_eq_true, decide_eq_true_eq, decide_eq_true_eq] at hp
  exact dWP_t hW.2.2 hj hk hp.1 (by rw [hp.2]; exact d_ne1 (by omega)) (by rw [hp.2, e])
theorem k_neg : ((-1 : Int32) < 0) = True := eq_true (by decide)
theorem k_npos : ((0 : Int32) ≤ -1) = False := eq_false (by decide)
theorem k_pos {t : Nat} (ht : t < 100) : (nI t < 0) = False := eq_false (nI_pos (by omega))
theorem k_nn {t : Nat} (ht : t < 100) : ((0 : Int32) ≤ nI t) = True := eq_true (nI_pos' (by omega))
theorem k_30 : ((3 : Int32) = 0) = False := eq_false (by decide)
theorem k_day (x : Int32) : x / 3 = aDay kN x := rfl
theorem k_cls {k : Nat} : ∃ g, kQ 5 k = nI g ∧ (k < 7 → g < 2) := ⟨(kT.getD 5 []).getD k 0, rfl, fun hk => kb7 (fun k => (kT.getD 5 []).getD k 0 < 2) (by decide) k hk⟩
theorem k_18 (hW : dW kN kQ P) (hV : kV kN kQ P) (h : dC kN kQ P s) {k : Nat} (hk : k < 7) (n : Nat) (l1 l2 l3 l4 l5 l6 : Int32) :
    f_L_holds_h18 (n + 1) l1 l2 l3 l4 l5 l6 (nI k) s = f_L_holds_j105 (f_L_holds_h18 n) l1 l2 l3 l4 l5 l6 (nI k) (P 1 k) (aDay kN (P 0 k)) s := by
  obtain ⟨x, hx, ex⟩ := hW.2.2.1 k hk
  obtain ⟨r, hr, er⟩ := hW.2.2.2.2.1 k hk
  obtain ⟨g, eg, hg⟩ := k_cls (k := k)
  have a1 := k_ofClass hW hV hk
  have a2 := k_inRoom hW hk
  rw [ex, eg] at a1
  rw [ex, er] at a2
  have q0 := x_lesson0 hW h (i := k) hk
  have q1 := x_lesson1 hW h (i := k) hk
  have q3 := x_lesson3 hW h (i := k) hk
  have q4 := x_lesson4 hW h (i := k) hk
  have qc := x_ofClass hW h hx (show g < kN 5 from hg hk)
  have qr := x_inRoom hW h hx hr
  rw [ex] at q0
  rw [eg] at q1
  rw [er] at q4
  rw [a1] at qc
  rw [a2] at qr
  rw [f_L_holds_h18, if_neg (show ¬ (7 : Int32) ≤ nI k from nI_ge (b := 7) hk (by omega)), q0, Option.bind_some, Sum.elim_inl, q3, Option.bind_some, Sum.elim_inl, if_neg (by decide)]
  dsimp only
  rw [q1, Option.bind_some, Sum.elim_inl, qc, Option.bind_some, Sum.elim_inl, if_pos rfl, q4, Option.bind_some, Sum.elim_inl, qr, Option.bind_some, Sum.elim_inl, if_pos rfl, k_day, ← ex]
  rcases hW.2.2.2.1 k hk with e1 | ⟨t, ht, e1⟩
  · rw [e1, if_pos (by decide)]
  · have a3 := k_ofTeacher hW hk ht e1
    rw [ex] at a3
    have qt := x_ofTeacher hW h hx ht
    rw [a3] at qt
    rw [e1, if_neg (nI_pos (by have : t < 4 := ht; omega)), ex, qt, Option.bind_some, Sum.elim_inl, if_pos rfl]
theorem k_105 (hW : dW kN kQ P) (hV : kV kN kQ P) (h : dC kN kQ P s) {k : Nat} (hk : k < 7) (go : Int32 → Int32 → Int32 → Int32 → Int32 → Int32 → Int32 → ga_M → Option (Int32 × ga_M)) (l1 l2 l3 l4 l5 l6 : Int32) :
    f_L_holds_j105 go l1 l2 l3 l4 l5 l6 (nI k) (P 1 k) (aDay kN (P 0 k)) s = f_L_holds_j155 go l1 l2 l3 l4 l5 l6 (nI k) (P 1 k) s := by
  obtain ⟨r, hr, er⟩ := hW.2.2.2.2.1 k hk
  obtain ⟨j, hj, ej⟩ := hW.2.1.1 k hk
  have a := hV.2.1 k hk
  rw [er, ej, d_cl (by have : r < 3 := hr; omega), d_cl (by have : j < 2 := hj; omega)] at a
  have q4 := x_lesson4 hW h (i := k) hk
  have q2 := x_lesson2 hW h (i := k) hk
  have qr := x_room0 hW h hr
  have qs := x_subject0 hW h hj
  rw [er] at q4
  rw [ej] at q2
  rw [fe_L_holds_j105]; unfold fb_L_holds_j105
  rw [q4, Option.bind_some, Sum.elim_inl, qr, Option.bind_some, Sum.elim_inl, q2, Option.bind_some, Sum.elim_inl, qs, Option.bind_some, Sum.elim_inl, if_pos a]
  rcases hW.2.2.2.1 k hk with e1 | ⟨t, ht, e1⟩
  · rw [e1, if_pos (by decide)]
  · have qt := x_teacher2 hW h ht
    have hv := hV.2.2.1 k t hk ht e1
    unfold aAway dHb at hv
    rw [decide_eq_false_iff_not] at hv
    rw [e1, if_neg (nI_pos (by have : t < 4 := ht; omega)), qt, Option.bind_some, Sum.elim_inl, if_neg hv]
theorem k_155 (hW : dW kN kQ P) (hV : kV kN kQ P) (h : dC kN kQ P s) {k : Nat} (hk : k < 7) (go : Int32 → Int32 → Int32 → Int32 → Int32 → Int32 → Int32 → ga_M → Option (Int32 × ga_M)) (l1 l2 l3 l4 l5 l6 : Int32) :
    f_L_holds_j155 go l1 l2 l3 l4 l5 l6 (nI k) (P 1 k) s = f_L_holds_j190 go l1 l2 l3 l4 l5 l6 (nI k) (P 1 k) s := by
  obtain ⟨j, hj, ej⟩ := hW.2.1.1 k hk
  have q5 := x_lesson5 hW h (i := k) hk
  have q2 := x_lesson2 hW h (i := k) hk
  rw [fe_L_holds_j155]; unfold fb_L_holds_j155
  rcases hW.2.2.2.1 k hk with e1 | ⟨t, ht, e1⟩
  · rw [e1, if_pos (by decide)]
  · rw [e1, if_neg (nI_pos (by have : t < 4 := ht; omega)), q5, Option.bind_some, Sum.elim_inl]
    by_cases c : P 3 k = 0
    · have qt := x_teacher1 hW h ht
      have hv := hV.2.2.2 k t hk ht e1 c
      unfold aQual dHb at hv
      rw [decide_eq_true_eq] at hv
      rw [if_pos c, qt, Option.bind_some, Sum.elim_inl, q2, Option.bind_some, Sum.elim_inl, if_neg (by rw [hv]; decide)]
    · rw [if_neg c]
theorem k_190 (hW : dW kN kQ P) (h : dC kN kQ P s) {k : Nat} (hk : k < 7) (go : Int32 → Int32 → Int32 → Int32 → Int32 → Int32 → Int32 → ga_M → Option (Int32 × ga_M)) (l1 l2 l3 l4 l5 l6 : Int32) :
    f_L_holds_j190 go l1 l2 l3 l4 l5 l6 (nI k) (P 1 k) s = f_L_holds_j208 go l1 l2 l3 l4 l5 l6 (nI k) (P 1 k) s := by
  have q5 := x_lesson5 hW h (i := k) hk
  rw [fe_L_holds_j190]; unfold fb_L_holds_j190
  rcases hW.2.2.2.1 k hk with e1 | ⟨t, ht, e1⟩
  · have e3 : P 3 k = 0 := by
      rcases hW.2.2.2.2.2.1 k hk with c | ⟨_, c⟩
      · exact c
      · exact absurd e1 c
    rw [e1, if_neg (by decide), q5, Option.bind_some, Sum.elim_inl, e3, if_neg (by decide)]
  · rw [e1, if_pos (nI_pos' (by have : t < 4 := ht; omega))]
def kO (P : Nat → Nat → Int32) (k : Nat) : Bool := decide (P 1 k = -1)
def kS (P : Nat → Nat → Int32) (k : Nat) : Bool := decide (P 3 k = 1)
theorem k_208 (hW : dW kN kQ P) {k : Nat} (hk : k < 7) (go : Int32 → Int32 → Int32 → Int32 → Int32 → Int32 → Int32 → ga_M → Option (Int32 × ga_M)) (l1 l2 l3 l4 l5 l6 : Int32) :
    f_L_holds_j208 go l1 l2 l3 l4 l5 l6 (nI k) (P 1 k) s = f_L_holds_j216 go l1 l2 l3 (dCf (kO P) k l4) l5 l6 (nI k) (P 1 k) s := by
  rw [fe_L_holds_j208]; unfold fb_L_holds_j208 dCf kO
  rcases hW.2.2.2.1 k hk with e1 | ⟨t, ht, e1⟩
  · rw [e1, if_neg (by decide)]
    simp
  · have ht : t < 4 := ht
    rw [e1, if_pos (nI_pos' (by omega)), decide_eq_false (d_ne1 (by omega)), if_neg (by decide)]
/-- no mask -/
theorem dMs_0 {p : Nat → Bool} {n : Nat} (hn : n ≤ 32) (h : ∀ j, j < n → p j = false) : dMs p n = 0 := by
  refine b_zero.mpr (fun i hi => ?_)
  rw [b_ms p hn hi]
  by_cases c : i < n
  · rw [h i c]; simp
  · simp [c]
theorem k_noCand {k : Nat} (h : ∀ t, t < 4 → aCover kN kQ P k t ≠ 0) : dMs (fun t => decide (aCover kN kQ P k t = 0)) (kN 3) = 0 :=
  dMs_0 (by decide) (fun t ht => decide_eq_false (h t ht))
/-- a candidate is a chain of one -/
theorem k_cand1 (hW : dW kN kQ P) {k t : Nat} (ht : t < 4) (h : aCover kN kQ P k t = 0) : gW (kN 3) (gE kN kQ P (P 0 k)) (gF kN kQ P (P 0 k)) (gC kN kQ P (P 0 k) k) [t] := by
  obtain ⟨_, h2, h3, h4, h5⟩ := aCover_z h
  refine ⟨ht, ?_, ?_⟩
  · unfold gC; rw [h2, h3]; rfl
  · unfold gF; rw [decide_eq_true h4, decide_eq_true h5]; rfl
theorem k_one_cand {k t : Nat} (e1 : P 1 k = -1) (h : gW (kN 3) (gE kN kQ P (P 0 k)) (gF kN kQ P (P 0 k)) (gC kN kQ P (P 0 k) k) [t]) : t < 4 ∧ aCover kN kQ P k t = 0 := by
  obtain ⟨h1, h2, h3⟩ := h
  refine ⟨h1, aCover_y ?_ ?_ ?_ ?_ ?_⟩
  · unfold aTaught; rw [e1]; rfl
  · unfold gC at h2; rw [Bool.and_eq_true] at h2; simpa using h2.1
  · unfold gC at h2; rw [Bool.and_eq_true] at h2; exact h2.2
  · unfold gF at h3; rw [Bool.and_eq_true, decide_eq_true_eq] at h3; exact h3.1
  · unfold gF at h3; rw [Bool.and_eq_true, decide_eq_true_eq, decide_eq_true_eq] at h3; exact h3.2
theorem k_325 {k : Nat} (hk : k < 7) (go : Int32 → Int32 → Int32 → Int32 → Int32 → Int32 → Int32 → ga_M → Option (Int32 × ga_M)) (l1 l2 l3 l4 l5 l6 : Int32) :
    f_L_holds_j325 go l1 l2 l3 l4 l5 l6 (nI k) s = go l1 l2 l3 l4 l5 l6 (nI (k + 1)) s := by
  rw [fe_L_holds_j325]; unfold fb_L_holds_j325
  dsimp only
  rw [nI_1]
theorem k_303 (hW : dW kN kQ P) (h : dC kN kQ P s) {k : Nat} (hk : k < 7) {c : List Nat} (hc : gCh kN kQ P k c) (hl : c.length ≤ 4) (go : Int32 → Int32 → Int32 → Int32 → Int32 → Int32 → Int32 → ga_M → Option (Int32 × ga_M)) (l1 l2 l3 l4 l5 l6 : Int32) :
    f_L_holds_j303 go l1 l2 l3 l4 l5 l6 (nI k) (P 1 k) (nI c.length) s = go l1 l2 l3 l4 l5 l6 (nI (k + 1)) s := by
  rw [fe_L_holds_j303]; unfold fb_L_holds_j303
  rcases hW.2.2.2.1 k hk with e1 | ⟨t, ht, e1⟩
  · rw [e1, if_neg (by decide)]
    by_cases c1 : c.length = 1
    · rw [c1, if_pos (show nI 1 = 1 from rfl), k_325 hk]
    · have hno : ∀ t, t < 4 → aCover kN kQ P k t ≠ 0 := by
        intro t ht h0
        have hw := k_cand1 hW ht h0
        rcases hc.2 e1 with ⟨_, g⟩ | ⟨g1, _, _, g⟩
        · exact g _ hw (by simp)
        · have := g _ hw
          simp at this
          omega
      have qc := x_candidates hW h (i := k) hk
      rw [k_noCand hno] at qc
      rw [if_neg (show ¬ nI c.length = 1 from fun q => c1 ((nI_eq (a := c.length) (b := 1) (by omega) (by omega)).mp q)), qc, Option.bind_some, Sum.elim_inl, if_pos rfl, k_325 hk]
  · rw [e1, if_pos (nI_pos' (by have : t < 4 := ht; omega)), k_325 hk]
theorem k_278 (hW : dW kN kQ P) (hz : dZ kN kQ P m H s) {k : Nat} (hk : k < 7) {c : List Nat} (hc : gCh kN kQ P k c) (hl : c.length ≤ 4) (go : Int32 → Int32 → Int32 → Int32 → Int32 → Int32 → Int32 → ga_M → Option (Int32 × ga_M)) (l1 l2 l3 l4 l5 l6 : Int32) :
    ∃ s1, f_L_holds_j278 go l1 l2 l3 l4 l5 l6 (nI k) (P 1 k) (nI c.length) s = go l1 l2 l3 l4 l5 l6 (nI (k + 1)) s1 ∧ dZ kN kQ P m H s1 := by
  by_cases c1 : c.length = 1
  · obtain ⟨t, rfl⟩ := List.length_eq_one_iff.mp c1
    have e1 : P 1 k = -1 := by
      by_cases e : P 1 k = -1
      · exact e
      · exact absurd (hc.1 e) (by simp)
    have hw : gW (kN 3) (gE kN kQ P (P 0 k)) (gF kN kQ P (P 0 k)) (gC kN kQ P (P 0 k) k) [t] := by
      rcases hc.2 e1 with ⟨q, _⟩ | ⟨_, _, g, _⟩
      · cases q
      · exact g.1.1
    obtain ⟨ht, h0⟩ := k_one_cand e1 hw
    obtain ⟨s2, g1, g2⟩ := x_chainT hW hz.1 (l := k) hk hc hl (j := 0) (by simp)
    have hz2 := zF_Z g2 hz
    refine ⟨s2, ?_, hz2⟩
    have qc := x_candidates hW hz.1 (i := k) hk
    rw [fe_L_holds_j278]; unfold fb_L_holds_j278
    have g1' : f_X11_chainTeacher (nI k) 0 s = some (.inl (nI t), s2) := g1
    rw [if_pos (show nI [t].length = 1 from rfl), qc, Option.bind_some, Sum.elim_inl, g1', Option.bind_some]
    dsimp only
    rw [Sum.elim_inl]
    have hb : dHb (dMs (fun t => decide (aCover kN kQ P k t = 0)) (kN 3)) (nI t) = true := by
      rw [b_hb _ (by omega), b_ms _ (by decide) (by omega), decide_eq_true (show t < kN 3 from ht), decide_eq_true h0]; rfl
    unfold dHb at hb
    rw [decide_eq_true_eq] at hb
    rw [if_neg (by rw [hb]; decide)]
    exact k_303 hW hz2.1 hk hc hl go l1 l2 l3 l4 l5 l6
  · refine ⟨s, ?_, hz⟩
    rw [fe_L_holds_j278]; unfold fb_L_holds_j278
    rw [if_neg (show ¬ nI c.length = 1 from fun q => c1 ((nI_eq (a := c.length) (b := 1) (by omega) (by omega)).mp q))]
    exact k_303 hW hz.1 hk hc hl go l1 l2 l3 l4 l5 l6
theorem k_216 (hW : dW kN kQ P) (hz : dZ kN kQ P m H s) {k : Nat} (hk : k < 7) (go : Int32 → Int32 → Int32 → Int32 → Int32 → Int32 → Int32 → ga_M → Option (Int32 × ga_M)) (l1 l2 l3 l4 l5 l6 : Int32) :
    ∃ s1, f_L_holds_j216 go l1 l2 l3 l4 l5 l6 (nI k) (P 1 k) s = go l1 l2 l3 l4 (dCf (kS P) k l5) (dCf (aDiff kQ P) k l6) (nI (k + 1)) s1 ∧ dZ kN kQ P m H s1 := by
  obtain ⟨c, hc, hl⟩ := gCh_ex hW hz.1 (l := k) hk
  obtain ⟨s2, g1, g2⟩ := x_chain hW hz.1 (l := k) hk hc
  have hz2 := zF_Z g2 hz
  have q5 := x_lesson5 hW hz.1 (i := k) hk
  have q9 := x_lesson9 hW hz.1 (i := k) hk
  have e5 : l5 + P 3 k = dCf (kS P) k l5 := by
    unfold dCf kS
    rcases hW.2.2.2.2.2.1 k hk with e | ⟨e, _⟩
    · rw [e]; simp
    · rw [e]; simp
  have e6 : l6 + aB (aDiff kQ P k) = dCf (aDiff kQ P) k l6 := by
    unfold dCf
    cases aDiff kQ P k
    · simp [aB]
    · simp [aB]
  obtain ⟨s3, k1, k2⟩ := k_278 hW hz2 hk hc hl go l1 l2 l3 l4 (dCf (kS P) k l5) (dCf (aDiff kQ P) k l6)
  refine ⟨s3, ?_, k2⟩
  rw [← k1, fe_L_holds_j216]; unfold fb_L_holds_j216
  rw [q5, Option.bind_some, Sum.elim_inl]
  dsimp only
  rw [q9, Option.bind_some, Sum.elim_inl, g1, Option.bind_some]
  dsimp only
  rw [Sum.elim_inl, e5, e6]
  rcases hW.2.2.2.1 k hk with e1 | ⟨t, ht, e1⟩
  · rw [e1, if_pos (by decide)]
  · have hc0 : c = [] := hc.1 (by rw [e1]; exact d_ne1 (by have : t < 4 := ht; omega))
    subst hc0
    have qc := x_candidates hW hz2.1 (i := k) hk
    have q5' := x_lesson5 hW hz2.1 (i := k) hk
    rw [e1, if_neg (nI_pos (by have : t < 4 := ht; omega)), if_pos (show nI ([] : List Nat).length = 0 from rfl), qc, Option.bind_some, Sum.elim_inl]
    by_cases c3 : dMs (fun k_1 => decide (aCover kN kQ P k k_1 = 0)) (kN 3) = 0
    · rw [if_pos c3]
    · have e3 : P 3 k = 1 := by
        rcases hW.2.2.2.2.2.1 k hk with e | ⟨e, _⟩
        · refine absurd (k_noCand (fun t' ht' h0 => ?_)) c3
          have := (aCover_z h0).1
          unfold aTaught at this
          rw [e1, e, decide_eq_false (d_ne1 (by have : t < 4 := ht; omega))] at this
          cases this
        · exact e
      rw [if_neg c3, q5', Option.bind_some, Sum.elim_inl, e3, if_neg (by decide)]
theorem dCt_succ (p : Nat → Bool) (n : Nat) : dCt p (n + 1) = dCf p n (dCt p n) := by
  unfold dCt
  rw [dFo_succ, Nat.zero_add]
theorem k_loop (hW : dW kN kQ P) (hV : kV kN kQ P) (l1 l2 l3 : Int32) : ∀ (n k : Nat) (s : ga_M), k + n = 7 → dZ kN kQ P m H s → ∀ n', n < n' → ∃ s1, f_L_holds_h18 n' l1 l2 l3 (dCt (kO P) k) (dCt (kS P) k) (dCt (aDiff kQ P) k) (nI k) s = f_L_holds_h334 gv_f5 l1 l2 l3 (dCt (kO P) 7) (dCt (kS P) 7) (dCt (aDiff kQ P) 7) 0 s1 ∧ dZ kN kQ P m H s1 := by
  intro n
  induction n with
  | zero =>
    intro k s hk hz n' hn
    obtain ⟨n', rfl⟩ : ∃ j, n' = j + 1 := ⟨n' - 1, by omega⟩
    have : k = 7 := by omega
    subst this
    refine ⟨s, ?_, hz⟩
    rw [f_L_holds_h18, if_pos (show (7 : Int32) ≤ nI 7 from by decide)]
  | succ n ih =>
    intro k s hk hz n' hn
    obtain ⟨n', rfl⟩ : ∃ j, n' = j + 1 := ⟨n' - 1, by omega⟩
    have hk7 : k < 7 := by omega
    obtain ⟨s1, g1, g2⟩ := k_216 hW hz hk7 (f_L_holds_h18 n') l1 l2 l3 (dCf (kO P) k (dCt (kO P) k)) (dCt (kS P) k) (dCt (aDiff kQ P) k)
    obtain ⟨s2, i1, i2⟩ := ih (k + 1) s1 (by omega) g2 n' (by omega)
    refine ⟨s2, ?_, i2⟩
    rw [k_18 hW hV hz.1 hk7, k_105 hW hV hz.1 hk7, k_155 hW hV hz.1 hk7, k_190 hW hz.1 hk7, k_208 hW hk7, g1, ← dCt_succ, ← dCt_succ, ← dCt_succ]
    exact i1
theorem k_334 (hW : dW kN kQ P) (h : dC kN kQ P s) {t : Nat} (ht : t < 4) (n : Nat) (l1 l2 l3 l4 l5 l6 : Int32) :
    f_L_holds_h334 (n + 1) l1 l2 l3 l4 l5 l6 (nI t) s = f_L_holds_h334 n (l1 + aBy kN P (nI t)) (l2 + aDut kN P (nI t)) (l3 + aLoad kN kQ P (nI t)) l4 l5 l6 (nI (t + 1)) s := by
  have q3 := x_teacher3 hW h (i := t) ht
  have q4 := x_teacher4 hW h (i := t) ht
  have q5 := x_teacher5 hW h (i := t) ht
  have q6 := x_teacher6 hW h (i := t) ht
  rw [f_L_holds_h334, if_neg (show ¬ (4 : Int32) ≤ nI t from nI_ge (b := 4) ht (by omega)), q3, Option.bind_some, Sum.elim_inl]
  dsimp only
  rw [q5, Option.bind_some, Sum.elim_inl]
  rw [q4, Option.bind_some, Sum.elim_inl]
  rw [Option.bind_some, Sum.elim_inl, Option.bind_some, Sum.elim_inl, q6, Option.bind_some, Sum.elim_inl, if_pos (show aLoad kN kQ P (nI t) = aBy kN P (nI t) - aFirst kN kQ (nI t) from rfl), nI_1]
theorem k_end (hW : dW kN kQ P) (h : dC kN kQ P s) : f_L_holds_h334 gv_f5 0 0 0 (dCt (kO P) 7) (dCt (kS P) 7) (dCt (aDiff kQ P) 7) 0 s = some (1, s) := by
  have hall := k_all hW 7 (Nat.le_refl _)
  have hdut := k_duties hW 7 (Nat.le_refl _)
  have q7 := x_count7 hW h
  have q8 := x_count8 hW h
  have q9 := x_count9 hW h
  have qs := x_share hW h
  have qp := x_spread hW h
  obtain ⟨f0, f1, f2, f3⟩ := k_first
  have b0 : ∀ t, aBy kN P (nI t) = nI (cN (fun k => decide (P 1 k = nI t) && decide (P 3 k = 0)) 7) := fun t => cN_t _ 7
  have d0 : ∀ t, aDut kN P (nI t) = nI (cN (fun k => decide (P 1 k = nI t) && decide (P 3 k = 1)) 7) := fun t => cN_t _ 7
  have o0 : dCt (kO P) 7 = nI (cN (fun k => decide (P 1 k = -1)) 7) := cN_t _ 7
  have w0 : dCt (kS P) 7 = nI (cN (fun k => decide (P 3 k = 1)) 7) := cN_t _ 7
  have L : nI 0 + aLoad kN kQ P (nI 0) + aLoad kN kQ P (nI 1) + aLoad kN kQ P (nI 2) + aLoad kN kQ P (nI 3) = (nI 0 + aBy kN P (nI 0) + aBy kN P (nI 1) + aBy kN P (nI 2) + aBy kN P (nI 3)) - 7 := by
    unfold aLoad
    rw [f0, f1, f2, f3, show nI 0 = 0 from rfl, d_q1]
    rfl
  generalize ea0 : cN (fun k => decide (P 1 k = nI 0) && decide (P 3 k = 0)) 7 = a0 at hall
  generalize ea1 : cN (fun k => decide (P 1 k = nI 1) && decide (P 3 k = 0)) 7 = a1 at hall
  generalize ea2 : cN (fun k => decide (P 1 k = nI 2) && decide (P 3 k = 0)) 7 = a2 at hall
  generalize ea3 : cN (fun k => decide (P 1 k = nI 3) && decide (P 3 k = 0)) 7 = a3 at hall
  generalize ew : cN (fun k => decide (P 3 k = 1)) 7 = w at hall hdut w0
  generalize eo : cN (fun k => decide (P 1 k = -1)) 7 = oo at hall o0
  have eT : nI 0 + aBy kN P (nI 0) + aBy kN P (nI 1) + aBy kN P (nI 2) + aBy kN P (nI 3) = nI (a0 + a1 + a2 + a3) := by
    rw [b0, b0, b0, b0, ea0, ea1, ea2, ea3, nI_add, nI_add, nI_add, nI_add]
    congr 1; omega
  have eD : nI 0 + aDut kN P (nI 0) + aDut kN P (nI 1) + aDut kN P (nI 2) + aDut kN P (nI 3) = nI w := by
    rw [d0, d0, d0, d0, nI_add, nI_add, nI_add, nI_add]
    congr 1; omega
  have eS : aShare kN P = FP.ddiv (FP.i2d (nI (a0 + a1 + a2 + a3))) (FP.i2d (nI 7)) := by
    unfold aShare
    rw [if_neg (show ¬ kN 6 = 0 from by decide)]
    have e1 : (nI (kN 6) - dCt (fun k => decide (P 1 k = -1)) (kN 6)) - dCt (fun k => decide (P 3 k = 1)) (kN 6) = nI (a0 + a1 + a2 + a3) := by
      show (nI 7 - dCt (kO P) 7) - dCt (kS P) 7 = _
      rw [o0, w0, pk_sub (by omega), pk_sub (by omega)]
      congr 1; omega
    rw [e1]
    rfl
  obtain ⟨g1, g2⟩ := k_dbl (a0 + a1 + a2 + a3) (by omega)
  rw [gv_f5_eq, show (0 : Int32) = nI 0 from rfl, k_334 hW h (by omega), k_334 hW h (by omega), k_334 hW h (by omega), k_334 hW h (by omega), L, eT, eD]
  rw [f_L_holds_h334, if_pos (show (4 : Int32) ≤ nI (3 + 1) from by decide), q7, Option.bind_some, Sum.elim_inl, if_pos (show dCt (fun k => decide (P 1 k = -1)) (kN 6) = dCt (kO P) 7 from rfl), q8, Option.bind_some, Sum.elim_inl, if_pos (show dCt (fun k => decide (P 3 k = 1)) (kN 6) = dCt (kS P) 7 from rfl),
    q9, Option.bind_some, Sum.elim_inl, if_pos (show aDiffs kN kQ P = dCt (aDiff kQ P) 7 from rfl)]
  have e7 : nI (a0 + a1 + a2 + a3) + dCt (kS P) 7 + dCt (kO P) 7 = 7 := by
    rw [w0, o0, nI_add, nI_add, hall]; rfl
  rw [if_pos e7, if_pos w0.symm, if_pos rfl, qs, Option.bind_some, eS, if_pos (show FP.ddiv (FP.i2d (nI (a0 + a1 + a2 + a3))) (FP.i2d 7) &&& 0x7fffffffffffffff ≤ 0x7ff0000000000000 from g1), if_pos (show Op.cmpValue (FP.dcmp (FP.ddiv (FP.i2d (nI (a0 + a1 + a2 + a3))) (FP.i2d (nI 7))) (FP.ddiv (FP.i2d (nI (a0 + a1 + a2 + a3))) (FP.i2d 7))) .l = 0 from g2), qp, Option.bind_some, if_neg k_spread]
/-- the timetable agrees with itself -/
theorem k_holds (hW : dW kN kQ P) (hV : kV kN kQ P) (hz : dZ kN kQ P m H s) : ∃ s1, f_L_holds s = some (1, s1) ∧ dZ kN kQ P m H s1 := by
  obtain ⟨s1, e1, z1⟩ := k_loop hW hV 0 0 0 7 0 s (by omega) hz gv_f8 (by rw [gv_f8_eq]; omega)
  refine ⟨s1, ?_, z1⟩
  rw [fe_L_holds]; unfold fb_L_holds
  rw [show f_L_holds_h18 gv_f8 0 0 0 0 0 0 0 s = _ from e1]
  exact k_end hW z1.1
end E5
