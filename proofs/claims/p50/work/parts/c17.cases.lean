section E7
/-! ===== the changes of a round, one by one ===== -/
variable {P : Nat → Nat → Int32} {s : ga_M} {m : Nat} {H : Nat → Nat → Nat → Int32} {xs : Nat → Int32} {LN : Nat} {k : Nat} {go : Int32 → Int32 → ga_M → Option (Int32 × ga_M)}
theorem k_n1000 {j : Nat} (h : j < 100) : ¬ (nI j ≤ (-1000 : Int32)) := by
  have h2 : ∀ j, j < 100 → ¬ (nI j ≤ (-1000 : Int32)) := by decide +kernel
  exact h2 j h
theorem k_load {t : Nat} : ∃ a b, a ≤ 7 ∧ b ≤ 7 ∧ aLoad kN kQ P (nI t) = nI a - nI b := by
  have h1 : jTn kN P t ≤ 7 := cN_le _ 7
  have h2 : cN (fun k => decide (kQ 8 k = nI t)) 7 ≤ 7 := cN_le _ 7
  refine ⟨_, _, h1, h2, ?_⟩
  unfold aLoad
  rw [aBy_t]
  show _ - dCt (fun k => decide (kQ 8 k = nI t)) 7 = _
  rw [cN_t]
theorem k_l1000 {t : Nat} : ¬ (aLoad kN kQ P (nI t) ≤ (-1000 : Int32)) := by
  obtain ⟨a, b, ha, hb, e⟩ := k_load (P := P) (t := t)
  have h2 : ∀ a, a < 8 → ∀ b, b < 8 → ¬ (nI a - nI b ≤ (-1000 : Int32)) := by decide +kernel
  rw [e]
  exact h2 a (by omega) b (by omega)
theorem k_cover (h : JI P m H s) (hg : kG go k) (c : Int32) {a t : Nat} (ha : a < 7) (ht : t < 4) :
    ∃ r, f_L_law2_j414 xs LN go (nI m) (nI k) c (nI a) (nI t) (P 0 a) (P 1 a) (b12 P) (b13 P) (aDiffs kN kQ P) (b15 P) (aLoad kN kQ P (nI t)) s = some (1, r) := by
  have hz := h.2.2.2.2
  have hN := h.1.1
  have qw := x_whyNotCover h.1 hz.1 (i := a) (j := t) ha ht
  rw [fe_L_law2_j414]; unfold fb_L_law2_j414
  rw [qw, Option.bind_some, Sum.elim_inl]
  by_cases c0 : aCover kN kQ P a t = 0
  · obtain ⟨f1, f2, f3, f4, f5⟩ := aCover_z c0
    obtain ⟨s1, e1, z1⟩ := y_cover h.1 hz (i := a) (j := t) ha ht c0
    have w1 : dW kN kQ (pT P a (nI t) 0) := ⟨hN, h.1.2.1, dWP_teach hN h.1.2.2 ht (Or.inl rfl) (aCover_0 hN c0)⟩
    have v1 := kV_teach (w := 0) hN h.2.1 (l := a) ha ht f2 (fun _ => f3)
    have q3 := x_lesson3 w1 z1.1 (i := a) ha
    have q5 := x_lesson5 w1 z1.1 (i := a) ha
    rw [pT_1, if_pos rfl] at q3
    rw [pT_3, if_pos rfl] at q5
    have el : aLoad kN kQ (pT P a (nI t) 0) (nI t) = aLoad kN kQ P (nI t) + 1 := by
      unfold aLoad
      rw [aBy_t, aBy_t, pT_taught hN (l := a) ha (Or.inl f1) (fun q => by
        unfold aTaught at f1
        rw [q.1, q.2, decide_eq_false (d_ne1 (by omega))] at f1
        cases f1), ← nI_1, d_i2]
    obtain ⟨r, er⟩ := e1165_1 (xs := xs) (LN := LN) h w1 v1 z1 hg c ha
    refine ⟨r, ?_⟩
    rw [e1, Option.bind_some]
    dsimp only
    rw [Sum.elim_inl, if_neg k_l1000, if_pos c0, if_pos el, q3, Option.bind_some, Sum.elim_inl, if_pos rfl, q5, Option.bind_some, Sum.elim_inl, if_pos rfl]
    exact er
  · obtain ⟨s1, e1, z1⟩ := n_cover h.1 hz (i := a) (j := t) ha ht c0
    obtain ⟨r, er⟩ := e1165_0 (xs := xs) (LN := LN) (JI_z h z1) hg c (nI a) (P 0 a) (P 1 a) (b12 P) (b13 P) (aDiffs kN kQ P) (b15 P)
    refine ⟨r, ?_⟩
    rw [e1, Option.bind_some]
    dsimp only
    rw [Sum.elim_inl, if_pos (by decide), if_neg c0]
    exact er
theorem k_supervise (h : JI P m H s) (hg : kG go k) (c : Int32) {a t : Nat} (ha : a < 7) (ht : t < 4) :
    ∃ r, f_L_law2_j502 xs LN go (nI m) (nI k) c (nI a) (nI t) (P 0 a) (P 1 a) (b12 P) (b13 P) (aDiffs kN kQ P) (b15 P) s = some (1, r) := by
  have hz := h.2.2.2.2
  have hN := h.1.1
  have qw := x_whyNotSupervise h.1 hz.1 (i := a) (j := t) ha ht
  rw [fe_L_law2_j502]; unfold fb_L_law2_j502
  rw [qw, Option.bind_some, Sum.elim_inl]
  by_cases c0 : aSuper kN P a t = 0
  · obtain ⟨f1, f2, f3⟩ := aSuper_z c0
    obtain ⟨s1, e1, z1⟩ := y_supervise h.1 hz (i := a) (j := t) ha ht c0
    have w1 : dW kN kQ (pT P a (nI t) 1) := ⟨hN, h.1.2.1, dWP_teach hN h.1.2.2 ht (Or.inr rfl) (aSuper_0 hN c0)⟩
    have v1 := kV_teach (w := 1) hN h.2.1 (l := a) ha ht f2 (fun q => absurd q (by decide))
    have q3 := x_lesson3 w1 z1.1 (i := a) ha
    have q5 := x_teacher5 w1 z1.1 (i := t) ht
    have q8 := x_count8 w1 z1.1
    rw [pT_1, if_pos rfl] at q3
    have e3 : P 3 a = 0 := by
      rcases h.1.2.2.2.2.2.1 a ha with q | ⟨_, q⟩
      · exact q
      · exact absurd f1 q
    have e8 : dCt (fun k => decide (pT P a (nI t) 1 3 k = 1)) (kN 6) = b13 P + 1 := by
      unfold b13
      rw [cN_t, cN_t, cN_one (n := kN 6) (p := fun k => decide (P 3 k = 1)) (q := fun k => decide (pT P a (nI t) 1 3 k = 1)) (v := a) ha (decide_eq_false (by rw [e3]; decide)) (by rw [pT_3, if_pos rfl]; rfl) (fun j _ hj => by rw [pT_3, if_neg hj]), nI_1]
    have hd : ¬ (aDut kN (pT P a (nI t) 1) (nI t) ≤ (-1000 : Int32)) := by
      show ¬ (dCt _ 7 ≤ (-1000 : Int32))
      rw [cN_t]
      exact k_n1000 (Nat.lt_of_le_of_lt (cN_le _ 7) (by omega))
    obtain ⟨r, er⟩ := e1165_1 (xs := xs) (LN := LN) h w1 v1 z1 hg c ha
    refine ⟨r, ?_⟩
    rw [e1, Option.bind_some]
    dsimp only
    rw [Sum.elim_inl, if_neg hd, if_pos c0, q5, Option.bind_some, Sum.elim_inl, if_pos rfl, q3, Option.bind_some, Sum.elim_inl, if_pos rfl, q8, Option.bind_some, Sum.elim_inl, if_pos e8]
    exact er
  · obtain ⟨s1, e1, z1⟩ := n_supervise h.1 hz (i := a) (j := t) ha ht c0
    obtain ⟨r, er⟩ := e1165_0 (xs := xs) (LN := LN) (JI_z h z1) hg c (nI a) (P 0 a) (P 1 a) (b12 P) (b13 P) (aDiffs kN kQ P) (b15 P)
    refine ⟨r, ?_⟩
    rw [e1, Option.bind_some]
    dsimp only
    rw [Sum.elim_inl, if_pos (by decide), if_neg c0]
    exact er
theorem k_exchange (h : JI P m H s) (hg : kG go k) (c : Int32) {a b : Nat} (ha : a < 7) (hb : b < 7) :
    ∃ r, f_L_law2_j774 xs LN go (nI m) (nI k) c (nI a) (nI b) (P 0 a) (P 1 a) (b12 P) (b13 P) (aDiffs kN kQ P) (b15 P) s = some (1, r) := by
  have hz := h.2.2.2.2
  have hN := h.1.1
  have qw := x_whyNotExchange h.1 hz.1 (i := a) (j := b) ha hb
  have qv := x_whyNotExchange h.1 hz.1 (i := b) (j := a) hb ha
  have q0 := x_lesson0 h.1 hz.1 (i := b) hb
  rw [fe_L_law2_j774]; unfold fb_L_law2_j774
  rw [qw, Option.bind_some, Sum.elim_inl, q0, Option.bind_some, Sum.elim_inl, qv, Option.bind_some, Sum.elim_inl, if_pos aExch_sym]
  by_cases c0 : aExch kN kQ P a b = 0
  · obtain ⟨f1, f2, f3, f4, f5, f6⟩ := aExch_z c0
    have hab : a ≠ b := fun q => f2 (by rw [q])
    obtain ⟨s1, e1, z1⟩ := y_exchange h.1 hz (i := a) (j := b) ha hb c0
    have w1 : dW kN kQ (pW P a b) := ⟨hN, h.1.2.1, dWP_swap hN h.1.2.2 ha hb c0⟩
    have v1 := kV_swap hN h.2.1 ha hb c0
    have q0 := x_lesson0 w1 z1.1 (i := b) hb
    have q3 := x_lesson3 w1 z1.1 (i := a) ha
    have ea : pW P a b 0 a = P 0 b := by unfold pW pS; simp [hab]
    have eb : pW P a b 0 b = P 0 a := by unfold pW pS; simp
    have e3 : pW P a b 1 a = P 1 a := by unfold pW pS; simp
    rw [eb] at q0
    rw [e3] at q3
    rw [ea] at e1
    obtain ⟨x, hx, ex⟩ := h.1.2.2.1 b hb
    have hn : ¬ (P 0 b ≤ (-1000 : Int32)) := by rw [ex]; exact k_n1000 (by have : x < 6 := hx; omega)
    obtain ⟨r, er⟩ := e1165_1 (xs := xs) (LN := LN) h w1 v1 z1 hg c ha
    refine ⟨r, ?_⟩
    rw [e1, Option.bind_some]
    dsimp only
    rw [Sum.elim_inl, if_neg hn, if_pos c0, if_pos rfl, q0, Option.bind_some, Sum.elim_inl, if_pos rfl, q3, Option.bind_some, Sum.elim_inl, if_pos rfl]
    exact er
  · obtain ⟨s1, e1, z1⟩ := n_exchange h.1 hz (i := a) (j := b) ha hb c0
    obtain ⟨r, er⟩ := e1165_0 (xs := xs) (LN := LN) (JI_z h z1) hg c (nI a) (P 0 a) (P 1 a) (b12 P) (b13 P) (aDiffs kN kQ P) (b15 P)
    refine ⟨r, ?_⟩
    rw [e1, Option.bind_some]
    dsimp only
    rw [Sum.elim_inl, if_pos (by decide), if_neg c0]
    exact er
theorem k_bit1 {p : Nat → Bool} {n j : Nat} (hn : n ≤ 32) (hj : j < n) : ((dMs p n >>> (nI j &&& 31)) &&& 1 = 1) ↔ p j = true := by
  have hb : dHb (dMs p n) (nI j) = p j := by
    rw [b_hb _ (by omega), b_ms p hn (by omega), decide_eq_true hj, Bool.true_and]
  unfold dHb at hb
  rw [← hb, decide_eq_true_eq]
theorem k_move (h : JI P m H s) (hg : kG go k) (c : Int32) {a x : Nat} (ha : a < 7) (hx : x < 6) :
    ∃ r, f_L_law2_j886 xs LN go (nI m) (nI k) c (nI a) (nI x) (P 0 a) (P 1 a) (b12 P) (b13 P) (aDiffs kN kQ P) (b15 P) s = some (1, r) := by
  have hz := h.2.2.2.2
  have hN := h.1.1
  have qw := x_slotsFor h.1 hz.1 (i := a) ha
  have hx6 : x < dSl kN := hx
  have hbit := k_bit1 (p := fun k => decide (aMove kN kQ P a (nI k) = 0)) (n := dSl kN) (j := x) (by decide) hx6
  rw [fe_L_law2_j886]; unfold fb_L_law2_j886
  rw [qw, Option.bind_some, Sum.elim_inl]
  by_cases c0 : aMove kN kQ P a (nI x) = 0
  · obtain ⟨s1, e1, z1⟩ := y_move h.1 hz (i := a) (j := x) ha hx6 c0
    have w1 : dW kN kQ (pS P 0 a (nI x)) := ⟨hN, h.1.2.1, dWP_slot h.1.2.2 hx6 (aMove_0 hN c0).1 (aMove_0 hN c0).2⟩
    have v1 := kV_slot hN h.2.1 ha c0
    have q0 := x_lesson0 w1 z1.1 (i := a) ha
    have q3 := x_lesson3 w1 z1.1 (i := a) ha
    rw [pS_eq] at q0
    rw [pS_ne (by omega)] at q3
    obtain ⟨y, hy, ey⟩ := h.1.2.2.1 a ha
    have hn : ¬ (P 0 a ≤ (-1000 : Int32)) := by rw [ey]; exact k_n1000 (by have : y < 6 := hy; omega)
    obtain ⟨r, er⟩ := e1165_1 (xs := xs) (LN := LN) h w1 v1 z1 hg c ha
    refine ⟨r, ?_⟩
    rw [if_pos (hbit.mpr (decide_eq_true c0)), e1, Option.bind_some]
    dsimp only
    rw [Sum.elim_inl, if_neg hn, if_pos rfl, q0, Option.bind_some, Sum.elim_inl, if_pos rfl, q3, Option.bind_some, Sum.elim_inl, if_pos rfl]
    exact er
  · obtain ⟨s1, e1, z1⟩ := n_move h.1 hz (i := a) (j := x) ha hx6 c0
    obtain ⟨r, er⟩ := e1165_0 (xs := xs) (LN := LN) (JI_z h z1) hg c (nI a) (P 0 a) (P 1 a) (b12 P) (b13 P) (aDiffs kN kQ P) (b15 P)
    refine ⟨r, ?_⟩
    rw [if_neg (fun q => c0 (of_decide_eq_true (hbit.mp q))), e1, Option.bind_some]
    dsimp only
    rw [Sum.elim_inl, if_pos (by decide)]
    exact er
theorem k_setRoom (h : JI P m H s) (hg : kG go k) (c : Int32) {a x : Nat} (ha : a < 7) (hx : x < 3) :
    ∃ r, f_L_law2_j978 xs LN go (nI m) (nI k) c (nI a) (nI x) (P 0 a) (P 1 a) (b12 P) (b13 P) (aDiffs kN kQ P) (b15 P) s = some (1, r) := by
  have hz := h.2.2.2.2
  have hN := h.1.1
  have qw := x_whyNotRoom h.1 hz.1 (i := a) (j := x) ha hx
  have q4 := x_lesson4 h.1 hz.1 (i := a) ha
  rw [fe_L_law2_j978]; unfold fb_L_law2_j978
  rw [qw, Option.bind_some, Sum.elim_inl, q4, Option.bind_some, Sum.elim_inl]
  by_cases c0 : aRoom kN kQ P a x = 0
  · obtain ⟨s1, e1, z1⟩ := y_setRoom h.1 hz (i := a) (j := x) ha hx c0
    have w1 : dW kN kQ (pS P 2 a (nI x)) := ⟨hN, h.1.2.1, dWP_room h.1.2.2 hx (aRoom_0 hN c0)⟩
    have v1 := kV_room hN h.2.1 hx c0
    have q4 := x_lesson4 w1 z1.1 (i := a) ha
    rw [pS_eq] at q4
    obtain ⟨y, hy, ey⟩ := h.1.2.2.2.2.1 a ha
    have hn : ¬ (P 2 a ≤ (-1000 : Int32)) := by rw [ey]; exact k_n1000 (by have : y < 3 := hy; omega)
    obtain ⟨r, er⟩ := e1165_1 (xs := xs) (LN := LN) h w1 v1 z1 hg c ha
    refine ⟨r, ?_⟩
    rw [e1, Option.bind_some]
    dsimp only
    rw [Sum.elim_inl, if_neg hn, if_pos c0, if_pos rfl, q4, Option.bind_some, Sum.elim_inl, if_pos rfl]
    exact er
  · obtain ⟨s1, e1, z1⟩ := n_setRoom h.1 hz (i := a) (j := x) ha hx c0
    obtain ⟨r, er⟩ := e1165_0 (xs := xs) (LN := LN) (JI_z h z1) hg c (nI a) (P 0 a) (P 1 a) (b12 P) (b13 P) (aDiffs kN kQ P) (b15 P)
    refine ⟨r, ?_⟩
    rw [e1, Option.bind_some]
    dsimp only
    rw [Sum.elim_inl, if_pos (by decide), if_neg c0]
    exact er
theorem k_reopen (h : JI P m H s) (hg : kG go k) (c : Int32) {a : Nat} (ha : a < 7) :
    ∃ r, f_L_law2_j1063 xs LN go (nI m) (nI k) c (nI a) (P 0 a) (P 1 a) (b12 P) (b13 P) (aDiffs kN kQ P) (b15 P) s = some (1, r) := by
  have hz := h.2.2.2.2
  have hN := h.1.1
  rw [fe_L_law2_j1063]; unfold fb_L_law2_j1063
  by_cases c0 : P 1 a = -1
  · obtain ⟨s1, e1, z1⟩ := n_reopen h.1 hz (i := a) ha c0
    obtain ⟨r, er⟩ := e1165_0 (xs := xs) (LN := LN) (JI_z h z1) hg c (nI a) (P 0 a) (P 1 a) (b12 P) (b13 P) (aDiffs kN kQ P) (b15 P)
    refine ⟨r, ?_⟩
    rw [e1, Option.bind_some]
    dsimp only
    rw [Sum.elim_inl, if_pos (by decide), if_pos (show P 1 a < 0 from by rw [c0]; decide)]
    exact er
  · obtain ⟨s1, e1, z1⟩ := y_reopen h.1 hz (i := a) ha c0
    have w1 : dW kN kQ (pT P a (-1) 0) := ⟨hN, h.1.2.1, dWP_open h.1.2.2 a⟩
    have v1 := kV_open hN h.2.1 a
    have q3 := x_lesson3 w1 z1.1 (i := a) ha
    rw [pT_1, if_pos rfl] at q3
    obtain ⟨t, ht, et⟩ := (h.1.2.2.2.1 a ha).resolve_left c0
    have ht : t < 4 := ht
    obtain ⟨r, er⟩ := e1165_1 (xs := xs) (LN := LN) h w1 v1 z1 hg c ha
    refine ⟨r, ?_⟩
    rw [e1, Option.bind_some]
    dsimp only
    rw [Sum.elim_inl, if_neg (show ¬ (P 1 a ≤ (-1000 : Int32)) from by rw [et]; exact k_n1000 (by omega)), if_neg (show ¬ (P 1 a < 0) from by rw [et]; exact nI_pos (by omega)), if_pos rfl, q3, Option.bind_some, Sum.elim_inl, if_pos rfl]
    exact er
theorem k_reset (h : JI P m H s) (hg : kG go k) (c : Int32) {a : Nat} (ha : a < 7) :
    ∃ r, f_L_law2_j1126 xs LN go (nI m) (nI k) c (nI a) (P 0 a) (P 1 a) (b12 P) (b13 P) (aDiffs kN kQ P) (b15 P) 1 s = some (1, r) := by
  have hz := h.2.2.2.2
  have hN := h.1.1
  obtain ⟨s1, e1, z1⟩ := y_reset h.1 hz
  have w1 : dW kN kQ (pF kN kQ P (kN 6)) := ⟨hN, h.1.2.1, dWP_pF h.1.2.1⟩
  have v1 := kV_first (P := P) hN h.1.2.1 kV_0
  have q7 := x_count7 w1 z1.1
  have q8 := x_count8 w1 z1.1
  have q9 := x_count9 w1 z1.1
  have e8 : dCt (fun k => decide (pF kN kQ P (kN 6) 3 k = 1)) (kN 6) = 0 := by
    rw [dCt_cong (q := fun _ => false) (fun j hj => by unfold pF; rw [if_pos hj]; simp)]
    rfl
  have e9 : aDiffs kN kQ (pF kN kQ P (kN 6)) = dCt (fun k => decide (pF kN kQ P (kN 6) 1 k = -1)) (kN 6) := by
    unfold aDiffs
    refine dCt_cong (fun j hj => ?_)
    have p0 : pF kN kQ P (kN 6) 0 j = kQ 7 j := by unfold pF; rw [if_pos hj]; simp
    have p1 : pF kN kQ P (kN 6) 1 j = aFT kN kQ P j := by unfold pF; rw [if_pos hj]; simp
    have p2 : pF kN kQ P (kN 6) 2 j = kQ 9 j := by unfold pF; rw [if_pos hj]; simp
    have p3 : pF kN kQ P (kN 6) 3 j = 0 := by unfold pF; rw [if_pos hj]; simp
    unfold aDiff
    rw [p0, p1, p2, p3]
    obtain ⟨t, ht, et⟩ := h.1.2.1.2.2.1 j hj
    have ht : t < 4 := ht
    unfold aFT
    by_cases c1 : aAway kN P (kQ 8 j).toNatClampNeg (kQ 7 j) = true
    · rw [if_pos c1, et, decide_eq_false (fun q : (-1 : Int32) = nI t => d_ne1 (by omega) q.symm)]
      simp
    · rw [if_neg c1, et, decide_eq_false (d_ne1 (show t < 2147483648 by omega))]
      simp
  obtain ⟨r, er⟩ := e1165_1 (xs := xs) (LN := LN) h w1 v1 z1 hg c ha
  refine ⟨r, ?_⟩
  rw [fe_L_law2_j1126]; unfold fb_L_law2_j1126
  rw [e1, Option.bind_some]
  dsimp only
  rw [if_pos rfl, q8, Option.bind_some, Sum.elim_inl, if_pos e8, q9, Option.bind_some, Sum.elim_inl, q7, Option.bind_some, Sum.elim_inl, if_pos e9]
  exact er
theorem k_repairAll (h : JI P m H s) (hg : kG go k) (c : Int32) {a : Nat} (ha : a < 7) :
    ∃ r, f_L_law2_j752 xs LN go (nI m) (nI k) c (nI a) (P 0 a) (P 1 a) (b12 P) (b13 P) (aDiffs kN kQ P) (b15 P) 1 s = some (1, r) := by
  have hz := h.2.2.2.2
  obtain ⟨P2, v, s1, w1, v1, o1, e1, z1⟩ := y_repairAll h.1 h.2.1 hz
  have q7 := x_count7 w1 z1.1
  have e7 : dCt (fun k => decide (P2 1 k = -1)) (kN 6) = b12 P - nI v := by
    unfold b12
    rw [cN_t, cN_t]
    show nI (jOn kN P2) = nI (jOn kN P) - nI v
    rw [pk_sub (by omega)]
    congr 1; omega
  obtain ⟨r, er⟩ := e1165_1 (xs := xs) (LN := LN) h w1 v1 z1 hg c ha
  refine ⟨r, ?_⟩
  rw [fe_L_law2_j752]; unfold fb_L_law2_j752
  rw [e1, Option.bind_some]
  dsimp only
  rw [q7, Option.bind_some, Sum.elim_inl, if_pos e7]
  exact er
end E7
