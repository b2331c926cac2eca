section E8
/-! ===== absences, the repair of one lesson, the rounds ===== -/
variable {P : Nat → Nat → Int32} {s : ga_M} {m : Nat} {H : Nat → Nat → Nat → Int32} {xs : Nat → Int32} {LN : Nat} {k : Nat} {go : Int32 → Int32 → ga_M → Option (Int32 × ga_M)}
theorem nCt_add {p q r : Nat → Bool} : ∀ m k, (∀ j, k ≤ j → j < k + m → r j = (p j || q j) ∧ (p j && q j) = false) → nCt r m k = nCt p m k + nCt q m k := by
  intro m
  induction m with
  | zero => intro k _; rfl
  | succ m ih =>
    intro k h
    obtain ⟨h1, h2⟩ := h k (Nat.le_refl _) (by omega)
    unfold nCt
    rw [h1, ih (k + 1) (fun j a b => h j (by omega) (by omega))]
    cases c1 : p k <;> cases c2 : q k <;> simp [c1, c2] at h2 ⊢ <;> omega
theorem cN_add {p q r : Nat → Bool} {n : Nat} (h : ∀ j, j < n → r j = (p j || q j) ∧ (p j && q j) = false) : cN r n = cN p n + cN q n := nCt_add n 0 (fun j _ b => h j (by omega))
theorem k_absOpen {t d : Nat} (ht : t < 4) (is : Bool) : dCt (fun k => decide (pA kN P t d is 1 k = -1)) (kN 6) = b12 P + aAbs kN P t d is := by
  unfold b12 aAbs pA
  cases is with
  | false =>
    rw [if_neg (by decide), if_neg (by decide), Int32.add_zero]
    exact dCt_cong (fun j _ => by rw [pS_ne (by omega)])
  | true =>
    rw [if_pos rfl, if_pos rfl, cN_t, cN_t, cN_t, nI_add]
    congr 1
    refine cN_add (fun j hj => ?_)
    have e4 : pS P 4 t (P 4 t ||| (1 <<< (nI d &&& 31))) 1 j = P 1 j := pS_ne (by omega)
    unfold pO
    rw [e4]
    dsimp only
    by_cases c : aAb kN P t d j = true
    · have c1 : P 1 j = nI t := by
        unfold aAb at c
        rw [Bool.and_eq_true, decide_eq_true_eq] at c
        exact c.1
      have hn : ¬ nI t = -1 := d_ne1 (by omega)
      rw [if_pos ⟨rfl, by rw [c, decide_eq_true hj]; rfl⟩, c1, decide_eq_false hn, c]
      exact ⟨rfl, rfl⟩
    · have c : aAb kN P t d j = false := by simpa using c
      have hc : (decide (j < kN 6) && aAb kN P t d j) = false := by rw [c, Bool.and_false]
      rw [if_neg (fun q => by rw [hc] at q; exact absurd q.2 (by decide)), if_neg (fun q => absurd q.1 (by decide)), c]
      exact ⟨by rw [Bool.or_false], by rw [Bool.and_false]⟩
theorem k_absBit {t d : Nat} (hd : d < 2) (is : Bool) : (pA kN P t d is 4 t >>> (nI d &&& 31)) &&& 1 = aB is := by
  have hb : dHb (pA kN P t d is 4 t) (nI d) = is := by
    rw [b_hb _ (by omega)]
    unfold pA
    cases is with
    | false =>
      rw [if_neg (by decide), pS_eq, b_and, b_xor, b_bit d (by omega) (by omega), b_m1 d (by omega)]
      simp
    | true =>
      rw [if_pos rfl]
      unfold pO
      rw [if_neg (by omega), if_neg (by omega), pS_eq, b_or, b_bit d (by omega) (by omega)]
      simp
  unfold dHb at hb
  obtain ⟨j, hj, e⟩ := pk_andE (pA kN P t d is 4 t >>> (nI d &&& 31)) (m := 1) 1 rfl
  rw [e] at hb ⊢
  cases is with
  | false =>
    have h0 := of_decide_eq_false hb
    have : j ≠ 1 := fun q => h0 (by rw [q]; rfl)
    have : j = 0 := by omega
    rw [this]; rfl
  | true => exact of_decide_eq_true hb
theorem k_absent (h : JI P m H s) (hg : kG go k) (c : Int32) {a t : Nat} (ha : a < 7) (ht : t < 4) :
    ∃ r, f_L_law2_j316 xs LN go (nI m) (nI k) c (nI a) (nI t) (P 0 a) (P 1 a) (b12 P) (b13 P) (aDiffs kN kQ P) (b15 P) 1 s = some (1, r) := by
  have hz := h.2.2.2.2
  have hN := h.1.1
  have q2 := x_teacher2 h.1 hz.1 (i := t) ht
  obtain ⟨d, hd, ed⟩ := pk_andE (c.toUInt32 >>> ((17 : Int32).toUInt32 &&& Int32.toUInt32 31)).toInt32 (m := 1) 1 rfl
  have hd : d < 2 := hd
  rw [fe_L_law2_j316]; unfold fb_L_law2_j316
  rw [q2, Option.bind_some, Sum.elim_inl, ed]
  have key : ∀ (w : Int32) (is : Bool), decide (w ≠ 0) = is → ∃ s1, f_X11_setAbsent (nI t) (nI d) w s = some (.inl (aAbs kN P t d is), s1) ∧ f_X11_count 7 s1 = some (.inl (b12 P + aAbs kN P t d is)) ∧ f_X11_teacher (nI t) 2 s1 = some (.inl (pA kN P t d is 4 t)) ∧ ∃ r, f_L_law2_j1165 xs LN go (nI m) (nI k) c (nI a) (P 0 a) (P 1 a) (b12 P) (b13 P) (aDiffs kN kQ P) (b15 P) 1 s1 = some (1, r) := by
    intro w is hw
    obtain ⟨s1, e1, z1⟩ := y_absent h.1 hz (i := t) (j := d) ht hd w
    rw [hw] at e1 z1
    have w1 : dW kN kQ (pA kN P t d is) := ⟨hN, h.1.2.1, dWP_pA h.1.2.2 t d is⟩
    have v1 := kV_absent h.1 h.2.1 (t := t) (d := d) ht hd is
    have q7 := x_count7 w1 z1.1
    rw [k_absOpen ht is] at q7
    exact ⟨s1, e1, q7, x_teacher2 w1 z1.1 (i := t) ht, e1165_1 h w1 v1 z1 hg c ha⟩
  by_cases c0 : ((c.toUInt32 >>> ((18 : Int32).toUInt32 &&& Int32.toUInt32 31)).toInt32 &&& 3) ≤ 0
  · obtain ⟨s1, e1, e2, e3, r, er⟩ := key 0 false (by decide)
    refine ⟨r, ?_⟩
    rw [if_pos c0, e1, Option.bind_some]
    dsimp only
    rw [Sum.elim_inl, e2, Option.bind_some, Sum.elim_inl, if_pos rfl, e3, Option.bind_some, Sum.elim_inl, if_pos (show _ = (0 : Int32) from k_absBit hd false), if_pos (show aAbs kN P t d false = 0 from rfl)]
    exact er
  · obtain ⟨s1, e1, e2, e3, r, er⟩ := key 1 true (by decide)
    refine ⟨r, ?_⟩
    rw [if_neg c0, e1, Option.bind_some]
    dsimp only
    rw [Sum.elim_inl, e2, Option.bind_some, Sum.elim_inl, if_pos rfl, e3, Option.bind_some, Sum.elim_inl, if_pos (show _ = (1 : Int32) from k_absBit hd true)]
    exact er
theorem gLa_at {c : List Nat} : c.getD (c.length - 1) 0 = gLa c := by
  unfold gLa
  simp [List.getD_eq_getElem?_getD, List.getLastD_eq_getLast?, List.getLast?_eq_getElem?]
theorem k_repair (h : JI P m H s) (hg : kG go k) (c : Int32) {a : Nat} (ha : a < 7) :
    ∃ r, f_L_law2_j596 xs LN go (nI m) (nI k) c (nI a) (P 0 a) (P 1 a) (b12 P) (b13 P) (aDiffs kN kQ P) (b15 P) s = some (1, r) := by
  have hz := h.2.2.2.2
  have hN := h.1.1
  obtain ⟨ch, hc, hl⟩ := gCh_ex h.1 hz.1 (l := a) ha
  obtain ⟨s1, e1, f1⟩ := x_chain h.1 hz.1 (l := a) ha hc
  have z1 := zF_Z f1 hz
  rw [fe_L_law2_j596]; unfold fb_L_law2_j596
  rw [e1, Option.bind_some]
  dsimp only
  rw [Sum.elim_inl]
  by_cases c0 : ch = []
  · subst c0
    obtain ⟨s2, e2, z2⟩ := n_repair h.1 z1 (l := a) ha hc
    obtain ⟨r, er⟩ := e1165_0 (xs := xs) (LN := LN) (JI_z h z2) hg c (nI a) (P 0 a) (P 1 a) (b12 P) (b13 P) (aDiffs kN kQ P) (b15 P)
    refine ⟨r, ?_⟩
    rw [if_pos (show nI ([] : List Nat).length ≤ 0 from by decide), fe_L_law2_j622]; unfold fb_L_law2_j622
    rw [if_pos (show nI ([] : List Nat).length ≤ 0 from by decide), fe_L_law2_j643]; unfold fb_L_law2_j643
    rw [if_pos (show (-1 : Int32) < 0 from by decide), fe_L_law2_j661]; unfold fb_L_law2_j661
    rw [e2, Option.bind_some]
    dsimp only
    rw [Sum.elim_inl, if_pos (by decide), if_pos (show nI ([] : List Nat).length ≤ 0 from by decide)]
    exact er
  · have hlen : 0 < ch.length := by
      cases ch with
      | nil => exact absurd rfl c0
      | cons _ _ => simp
    have hpos : ¬ nI ch.length ≤ 0 := nI_ge (a := 0) (b := ch.length) hlen (by omega)
    obtain ⟨s2, e2, f2⟩ := x_chainT h.1 z1.1 (l := a) ha hc hl (j := 0) hlen
    have z2 := zF_Z f2 z1
    obtain ⟨s3, e3, f3⟩ := x_chainT h.1 z2.1 (l := a) ha hc hl (j := ch.length - 1) (by omega)
    have z3 := zF_Z f3 z2
    rw [gLa_at] at e3
    obtain ⟨P2, s4, w4, v4, p1, p2, p3, p4, e4, z4⟩ := y_repair h.1 h.2.1 z3 (l := a) ha hc c0
    have ht : gLa ch < 4 := p2
    have q3 := x_teacher4 h.1 z3.1 (i := gLa ch) ht
    have r3 := x_lesson3 w4 z4.1 (i := a) ha
    have r4 := x_teacher4 w4 z4.1 (i := gLa ch) ht
    have r7 := x_count7 w4 z4.1
    have el : aLoad kN kQ P2 (nI (gLa ch)) = aLoad kN kQ P (nI (gLa ch)) + 1 := by
      unfold aLoad
      rw [aBy_t, aBy_t, p3, ← nI_1, d_i2]
    have e7 : dCt (fun k => decide (P2 1 k = -1)) (kN 6) = b12 P - 1 := by
      unfold b12
      rw [cN_t, cN_t]
      show nI (jOn kN P2) = nI (jOn kN P) - nI 1
      rw [pk_sub (by omega)]
      congr 1; omega
    obtain ⟨r, er⟩ := e1165_1 (xs := xs) (LN := LN) (JI_z h z3) w4 v4 z4 hg c ha
    have hd : nI ch.length - 1 = nI (ch.length - 1) := pk_sub (a := ch.length) (b := 1) hlen
    refine ⟨r, ?_⟩
    rw [if_neg hpos, show (0 : Int32) = nI 0 from rfl, e2, Option.bind_some]
    dsimp only
    rw [Sum.elim_inl, fe_L_law2_j622]; unfold fb_L_law2_j622
    rw [if_neg hpos, hd, e3, Option.bind_some]
    dsimp only
    rw [Sum.elim_inl, fe_L_law2_j643]; unfold fb_L_law2_j643
    rw [if_neg (show ¬ nI (gLa ch) < 0 from nI_pos (by omega)), q3, Option.bind_some, Sum.elim_inl, fe_L_law2_j661]; unfold fb_L_law2_j661
    rw [e4, Option.bind_some]
    dsimp only
    rw [Sum.elim_inl, if_neg (k_n1000 (show ch.length < 100 by omega)), if_neg hpos, if_pos rfl, r3, Option.bind_some, Sum.elim_inl, if_pos p1, r4, Option.bind_some, Sum.elim_inl, if_pos el, r7, Option.bind_some, Sum.elim_inl, if_pos e7]
    exact er
theorem k_ite {p : Prop} [Decidable p] {x y : Option (Int32 × ga_M)} (hx : ∃ r, x = some (1, r)) (hy : ∃ r, y = some (1, r)) : ∃ r, (if p then x else y) = some (1, r) := by
  split
  · exact hx
  · exact hy
theorem k_238 (h : JI P m H s) (hg : kG go k) (c : Int32) {a b t x y : Nat} (ha : a < 7) (hb : b < 7) (ht : t < 4) (hx : x < 6) (hy : y < 3) :
    ∃ r, f_L_law2_j238 xs LN go (nI m) (nI k) c (nI a) (nI b) (nI t) (nI x) (nI y) (P 0 a) (P 1 a) (b12 P) (b13 P) (aDiffs kN kQ P) (b15 P) (aLoad kN kQ P (nI t)) 1 s = some (1, r) := by
  have a0 := k_absent (xs := xs) (LN := LN) h hg c ha ht
  have a3 := k_cover (xs := xs) (LN := LN) h hg c ha ht
  have a5 := k_supervise (xs := xs) (LN := LN) h hg c ha ht
  have a6 := k_repair (xs := xs) (LN := LN) h hg c ha
  have a8 := k_repairAll (xs := xs) (LN := LN) h hg c ha
  have a9 := k_exchange (xs := xs) (LN := LN) h hg c ha hb
  have ab := k_move (xs := xs) (LN := LN) h hg c ha hx
  have ad := k_setRoom (xs := xs) (LN := LN) h hg c ha hy
  have ae := k_reopen (xs := xs) (LN := LN) h hg c ha
  have af := k_reset (xs := xs) (LN := LN) h hg c ha
  rw [fe_L_law2_j238]; unfold fb_L_law2_j238
  exact k_ite a0 (k_ite a0 (k_ite a0 (k_ite a3 (k_ite a3 (k_ite a5 (k_ite a6 (k_ite a6 (k_ite a8 (k_ite a9 (k_ite a9 (k_ite ab (k_ite ab (k_ite ad (k_ite ae af))))))))))))))
theorem k_cell {k : Nat} (hk : k < 14) : ∃ c, gw_cell xs LN (nI k) s = some c := by
  unfold gw_cell
  by_cases c1 : Int32.ofNat LN ≤ nI k
  · exact ⟨0, by rw [if_pos c1]⟩
  · rw [if_neg c1, if_neg]
    · exact ⟨_, rfl⟩
    · rintro (q | q)
      · exact nI_pos (by omega) q
      · rw [d_cl (by omega)] at q
        exact c1 (nI_le q (by omega))
theorem k_rem (x : Int32) {m D : Int32} (k d : Nat) (hD : D = nI d) (hm : m.toBitVec.toNat = 2 ^ k - 1) (hk : 2 ^ k < 2 ^ 31) (h0 : 0 < d) (hd : d < 2 ^ 31) : ∃ j, j < d ∧ (x &&& m) - (x &&& m) / D * D = nI j := by
  subst hD
  obtain ⟨j, hj, e⟩ := pk_andE x (m := m) k hm
  refine ⟨j % d, Nat.mod_lt _ h0, ?_⟩
  rw [e, pk_rem (by omega) h0 hd]
theorem k_106 (h : JI P m H s) {k : Nat} (hk : k < 14) {n : Nat} (hg : kG (f_L_law2_h106 xs LN n) k) : ∃ r, f_L_law2_h106 xs LN (n + 1) (nI m) (nI k) s = some (1, r) := by
  have hz := h.2.2.2.2
  have hN := h.1.1
  obtain ⟨c, ec⟩ := k_cell (xs := xs) (LN := LN) (s := s) hk
  obtain ⟨a, ha, ea⟩ := k_rem (c.toUInt32 >>> ((4 : Int32).toUInt32 &&& Int32.toUInt32 31)).toInt32 (m := 7) (D := 7) 3 7 rfl rfl (by decide) (by decide) (by decide)
  obtain ⟨b, hb, eb⟩ := k_rem (c.toUInt32 >>> ((7 : Int32).toUInt32 &&& Int32.toUInt32 31)).toInt32 (m := 7) (D := 7) 3 7 rfl rfl (by decide) (by decide) (by decide)
  obtain ⟨t, ht, et⟩ := pk_andE (c.toUInt32 >>> ((10 : Int32).toUInt32 &&& Int32.toUInt32 31)).toInt32 (m := 3) 2 rfl
  obtain ⟨x, hx, ex⟩ := k_rem (c.toUInt32 >>> ((12 : Int32).toUInt32 &&& Int32.toUInt32 31)).toInt32 (m := 7) (D := 6) 3 6 rfl rfl (by decide) (by decide) (by decide)
  obtain ⟨y, hy, ey⟩ := k_rem (c.toUInt32 >>> ((15 : Int32).toUInt32 &&& Int32.toUInt32 31)).toInt32 (m := 3) (D := 3) 2 3 rfl rfl (by decide) (by decide) (by decide)
  have ht : t < 4 := ht
  have q0 := x_lesson0 h.1 hz.1 (i := a) ha
  have q3 := x_lesson3 h.1 hz.1 (i := a) ha
  have q7 := x_count7 h.1 hz.1
  have q8 := x_count8 h.1 hz.1
  have q9 := x_count9 h.1 hz.1
  obtain ⟨s1, e1, f1⟩ := x_report h.1 hz.1 (g := 0) (by decide)
  have z1 := zF_Z (zF_r f1) hz
  have q4 := x_teacher4 h.1 z1.1 (i := t) ht
  obtain ⟨r, er⟩ := k_238 (xs := xs) (LN := LN) (JI_z h z1) hg c ha hb ht hx hy
  refine ⟨r, ?_⟩
  rw [f_L_law2_h106, if_neg (show ¬ (14 : Int32) ≤ nI k from nI_ge (b := 14) hk (by omega)), ec, Option.bind_some, if_neg (by decide), if_neg (by decide), if_neg (by decide), if_neg (by decide)]
  dsimp only
  rw [ea, eb, et, ex, ey, q0, Option.bind_some, Sum.elim_inl, q3, Option.bind_some, Sum.elim_inl, q7, Option.bind_some, Sum.elim_inl, q8, Option.bind_some, Sum.elim_inl, q9, Option.bind_some, Sum.elim_inl, show (0 : Int32) = nI 0 from rfl, e1, Option.bind_some]
  dsimp only
  rw [Sum.elim_inl, q4, Option.bind_some, Sum.elim_inl]
  exact er
theorem k_rounds : ∀ (n k : Nat), k + n = 14 → ∀ n', n < n' → ∀ P m H s, JI P m H s → ∃ r, f_L_law2_h106 xs LN n' (nI m) (nI k) s = some (1, r) := by
  intro n
  induction n with
  | zero =>
    intro k hk n' hn P m H s _
    obtain ⟨n', rfl⟩ : ∃ j, n' = j + 1 := ⟨n' - 1, by omega⟩
    have : k = 14 := by omega
    subst this
    exact ⟨s, by rw [f_L_law2_h106, if_pos (show (14 : Int32) ≤ nI 14 from by decide)]⟩
  | succ n ih =>
    intro k hk n' hn P m H s h
    obtain ⟨n', rfl⟩ : ∃ j, n' = j + 1 := ⟨n' - 1, by omega⟩
    exact k_106 h (by omega) (fun P m H s h => ih (k + 1) (by omega) n' (by omega) P m H s h)
end E8
