section E9
/-! ===== the law types its text ===== -/
def kX : List Nat := [103, 114, 105, 100, 32, 50, 32, 51, 59, 115, 117, 98, 106, 101, 99, 116, 32, 48, 59, 115, 117, 98, 106, 101, 99, 116, 32, 49, 59, 116, 101, 97, 99, 104, 101, 114, 32, 49, 32, 48, 59, 116, 101, 97, 99, 104, 101, 114, 32, 50, 32, 48, 32, 49, 59, 116, 101, 97, 99, 104, 101, 114, 32, 49, 32, 49, 59, 116, 101, 97, 99, 104, 101, 114, 32, 57, 32, 48, 32, 49, 59, 114, 111, 111, 109, 32, 48, 59, 114, 111, 111, 109, 32, 49, 59, 114, 111, 111, 109, 32, 48, 59, 99, 108, 97, 115, 115, 101, 115, 32, 50, 59, 108, 101, 115, 115, 111, 110, 32, 48, 32, 48, 32, 48, 32, 48, 32, 48, 59, 108, 101, 115, 115, 111, 110, 32, 48, 32, 49, 32, 49, 32, 50, 32, 49, 59, 108, 101, 115, 115, 111, 110, 32, 49, 32, 48, 32, 49, 32, 49, 32, 49, 59, 108, 101, 115, 115, 111, 110, 32, 49, 32, 49, 32, 48, 32, 48, 32, 48, 59, 108, 101, 115, 115, 111, 110, 32, 51, 32, 48, 32, 48, 32, 49, 32, 50, 59, 108, 101, 115, 115, 111, 110, 32, 51, 32, 49, 32, 49, 32, 50, 32, 49, 59, 108, 101, 115, 115, 111, 110, 32, 52, 32, 49, 32, 48, 32, 51, 32, 48, 59]
def kTx : Nat → Nat := fun i => kX.getD i 0
variable {s : ga_M}
theorem kX_tx : ga_tx 1024 = some kX := rfl
theorem kX_sl (s : ga_M) : ga_sl 1024 s = some (nI 231) := by unfold ga_sl; rw [kX_tx]; rfl
theorem kX_sc {i : Nat} (hi : i < 231) (s : ga_M) : ga_sc 1024 (nI i) s = some (nI (kTx i)) := by
  have hL : kX.length = 231 := rfl
  unfold ga_sc
  rw [kX_tx, Option.bind_some, if_neg]
  · rw [d_cl (by omega)]; rfl
  · rintro (h | h)
    · exact nI_pos (by omega) h
    · rw [d_cl (by omega), hL] at h; omega
theorem kT_ok : tOk kTx 231 := ⟨by decide, by
  have h : ∀ i, i < 231 → kTx i < 256 := by decide +kernel
  exact fun i hi => h i hi⟩
theorem kTx_ge {i : Nat} (h : 231 ≤ i) : kTx i = 0 := by
  unfold kTx
  rw [List.getD_eq_getElem?_getD, List.getElem?_eq_none (show kX.length ≤ i from h)]
  rfl
/-- the first k bytes from q on, in one word -/
def pw (q : Nat) : Nat → Int32
  | 0 => 0
  | k + 1 => (pw q k <<< (8 &&& 31)) ||| nI (kTx (q + k))
theorem pw_s (q k : Nat) : pw q (k + 1) = (pw q k <<< (8 &&& 31)) ||| nI (kTx (q + k)) := rfl
theorem kb0 : ∀ q, q < 60 → cB (pw (4 * q) 4) 24 = nI (kTx (4 * q)) ∧ cB (pw (4 * q) 4) 16 = nI (kTx (4 * q + 1)) ∧ cB (pw (4 * q) 4) 8 = nI (kTx (4 * q + 2)) ∧ cB (pw (4 * q) 4) 0 = nI (kTx (4 * q + 3)) := by decide +kernel
theorem ty_step {c n l2 i : Nat} {go : Int32 → ga_M → Option ga_M} (hi : i < 20) (hl : l2 ≤ 220) : f_L_type_i c go (n + 1) (nI l2) (nI i) s = f_L_type_i c go n (nI l2) (nI (i + 1)) (ga_up s c (i / 4) ((s c (i / 4) <<< (8 &&& 31)) ||| nI (kTx (l2 + i)))) := by
  have e4 : nI i / 4 = nI (i / 4) := pk_div (d := 4) (by omega) (by omega) (by omega)
  have c4 : (nI (i / 4)).toNatClampNeg = i / 4 := d_cl (by omega)
  have hr : ¬ (nI (i / 4) < 0 ∨ 5 ≤ i / 4) := by
    rintro (h | h)
    · exact nI_pos (by omega) h
    · omega
  rw [f_L_type_i, if_neg (show ¬ (20 : Int32) ≤ nI i from nI_ge (b := 20) hi (by omega)), if_neg (show ¬ (4 : Int32) = 0 by decide), if_neg (show ¬ (4 : Int32) = 0 by decide), e4, c4, if_neg hr, kX_sl, Option.bind_some, nI_add]
  by_cases c1 : 231 ≤ l2 + i
  · rw [if_pos (nI_le c1 (by omega)), if_neg hr]
    dsimp only
    rw [nI_1, kTx_ge c1]
    rfl
  · rw [if_neg (nI_ge (a := l2 + i) (b := 231) (by omega) (by omega)), kX_sc (by omega), Option.bind_some, if_neg hr]
    dsimp only
    rw [nI_1]
def tyJ (s0 : ga_M) (c l2 i : Nat) (s : ga_M) : Prop := (∀ w, w < 5 → s c w = pw (l2 + 4 * w) (min 4 (i - 4 * w))) ∧ ∀ a, a ≠ c → s a = s0 a
theorem ty_loop {s0 : ga_M} {c l2 : Nat} {go : Int32 → ga_M → Option ga_M} (hl : l2 ≤ 220) : ∀ r i n s, i + r = 20 → r < n → tyJ s0 c l2 i s → ∃ n' s', f_L_type_i c go n (nI l2) (nI i) s = f_L_type_i c go (n' + 1) (nI l2) (nI 20) s' ∧ tyJ s0 c l2 20 s' := by
  intro r
  induction r with
  | zero =>
    intro i n s hi hn h
    obtain ⟨n, rfl⟩ : ∃ k, n = k + 1 := ⟨n - 1, by omega⟩
    obtain rfl : i = 20 := by omega
    exact ⟨n, s, rfl, h⟩
  | succ r ih =>
    intro i n s hi hn h
    obtain ⟨n, rfl⟩ : ∃ k, n = k + 1 := ⟨n - 1, by omega⟩
    obtain ⟨n', s', e, h'⟩ := ih (i + 1) n (ga_up s c (i / 4) ((s c (i / 4) <<< (8 &&& 31)) ||| nI (kTx (l2 + i)))) (by omega) (by omega) ⟨fun w hw => by
      by_cases c1 : w = i / 4
      · rw [c1, d_up_eq, h.1 (i / 4) (by omega), show min 4 (i + 1 - 4 * (i / 4)) = min 4 (i - 4 * (i / 4)) + 1 by omega, pw_s, show l2 + 4 * (i / 4) + min 4 (i - 4 * (i / 4)) = l2 + i by omega]
      · rw [d_up_nk (fun q => c1 q.2), h.1 w hw]
        congr 1; omega, fun a ha => by rw [d_up_ne ha]; exact h.2 a ha⟩
    exact ⟨n', s', by rw [ty_step (by omega) hl, e], h'⟩
def tyA (s s2 : ga_M) (L : Nat) (v : Int32) : Prop := (∀ c, c ≠ 45 → c ≠ 47 → s2 c = s c) ∧ s2 45 1 = nI (L + 4) ∧ cT s s2 L v
theorem ty_app {L : Nat} (h1 : s 45 1 = nI L) (hL : L + 20 ≤ 900) (v0 v1 v2 v3 v4 : Int32) : ∃ s2, f_X11_appendText v0 v1 v2 v3 v4 s = some (.inl (nI (L + 20)), s2) ∧ (∀ c, c ≠ 45 → c ≠ 47 → s2 c = s c) ∧ s2 45 1 = nI (L + 20) ∧ (∀ i, i < L → s2 47 i = s 47 i) ∧
    (s2 47 L = cB v0 24 ∧ s2 47 (L + 1) = cB v0 16 ∧ s2 47 (L + 2) = cB v0 8 ∧ s2 47 (L + 3) = cB v0 0) ∧
    (s2 47 (L + 4) = cB v1 24 ∧ s2 47 (L + 5) = cB v1 16 ∧ s2 47 (L + 6) = cB v1 8 ∧ s2 47 (L + 7) = cB v1 0) ∧
    (s2 47 (L + 8) = cB v2 24 ∧ s2 47 (L + 9) = cB v2 16 ∧ s2 47 (L + 10) = cB v2 8 ∧ s2 47 (L + 11) = cB v2 0) ∧
    (s2 47 (L + 12) = cB v3 24 ∧ s2 47 (L + 13) = cB v3 16 ∧ s2 47 (L + 14) = cB v3 8 ∧ s2 47 (L + 15) = cB v3 0) ∧
    (s2 47 (L + 16) = cB v4 24 ∧ s2 47 (L + 17) = cB v4 16 ∧ s2 47 (L + 18) = cB v4 8 ∧ s2 47 (L + 19) = cB v4 0) := by
  obtain ⟨a0, g0, f0, _, l0, p0, b0, b1, b2, b3⟩ := c_append (s := s) (L := L) (by omega) h1 v0
  obtain ⟨a1, g1, f1, _, l1, p1, c0, c1, c2, c3⟩ := c_append (s := a0) (L := L + 4) (by omega) l0 v1
  obtain ⟨a2, g2, f2, _, l2, p2, d0, d1, d2, d3⟩ := c_append (s := a1) (L := L + 4 + 4) (by omega) l1 v2
  obtain ⟨a3, g3, f3, _, l3, p3, e0, e1, e2, e3⟩ := c_append (s := a2) (L := L + 4 + 4 + 4) (by omega) l2 v3
  obtain ⟨a4, g4, f4, _, l4, p4, h0, h1', h2, h3⟩ := c_append (s := a3) (L := L + 4 + 4 + 4 + 4) (by omega) l3 v4
  refine ⟨a4, ?_, fun c k1 k2 => by rw [f4 c k1 k2, f3 c k1 k2, f2 c k1 k2, f1 c k1 k2, f0 c k1 k2], l4, fun i hi => by rw [p4 i (by omega), p3 i (by omega), p2 i (by omega), p1 i (by omega), p0 i hi],
    ⟨?_, ?_, ?_, ?_⟩, ⟨?_, ?_, ?_, ?_⟩, ⟨?_, ?_, ?_, ?_⟩, ⟨?_, ?_, ?_, ?_⟩, ⟨h0, h1', h2, h3⟩⟩
  · rw [fe_X11_appendText]; unfold fb_X11_appendText
    rw [h1, show (20 : Int32) = nI 20 from rfl, nI_add, if_pos (show nI (L + 20) ≤ 900 from nI_le (b := 900) hL (by omega)), g0, Option.bind_some, g1, Option.bind_some, g2, Option.bind_some, g3, Option.bind_some, g4, Option.bind_some, l4]
  · rw [p4 _ (by omega), p3 _ (by omega), p2 _ (by omega), p1 _ (by omega), b0]
  · rw [p4 _ (by omega), p3 _ (by omega), p2 _ (by omega), p1 _ (by omega), b1]
  · rw [p4 _ (by omega), p3 _ (by omega), p2 _ (by omega), p1 _ (by omega), b2]
  · rw [p4 _ (by omega), p3 _ (by omega), p2 _ (by omega), p1 _ (by omega), b3]
  · rw [p4 _ (by omega), p3 _ (by omega), p2 _ (by omega), c0]
  · rw [p4 _ (by omega), p3 _ (by omega), p2 _ (by omega)]; exact c1
  · rw [p4 _ (by omega), p3 _ (by omega), p2 _ (by omega)]; exact c2
  · rw [p4 _ (by omega), p3 _ (by omega), p2 _ (by omega)]; exact c3
  · rw [p4 _ (by omega), p3 _ (by omega)]; exact d0
  · rw [p4 _ (by omega), p3 _ (by omega)]; exact d1
  · rw [p4 _ (by omega), p3 _ (by omega)]; exact d2
  · rw [p4 _ (by omega), p3 _ (by omega)]; exact d3
  · rw [p4 _ (by omega)]; exact e0
  · rw [p4 _ (by omega)]; exact e1
  · rw [p4 _ (by omega)]; exact e2
  · rw [p4 _ (by omega)]; exact e3
def tyI (s0 : ga_M) (j : Nat) (s : ga_M) : Prop := s 45 1 = nI (20 * j) ∧ (∀ i, i < 20 * j → s 47 i = nI (kTx i)) ∧ ∀ c, c ≠ 45 → c ≠ 47 → c < 72 → s c = s0 c
theorem ty_word {s0 : ga_M} {c j : Nat} {go : Int32 → ga_M → Option ga_M} (hj : j < 12) (hc : 72 ≤ c) (h : tyI s0 j s) : ∃ s2, f_L_type_i c go gv_f21 (nI (20 * j)) 0 (ga_z s c) = go (nI (20 * (j + 1))) s2 ∧ tyI s0 (j + 1) s2 := by
  obtain ⟨n', s', e, h', f'⟩ := ty_loop (s0 := s) (c := c) (l2 := 20 * j) (go := go) (by omega) 20 0 gv_f21 (ga_z s c) (by omega) (by rw [gv_f21_eq]; omega) ⟨fun w hw => by rw [z_eq, show min 4 (0 - 4 * w) = 0 by omega]; rfl, fun a ha => z_nq ha⟩
  have hw : ∀ w, w < 5 → s' c w = pw (4 * (5 * j + w)) 4 := fun w hw => by
    rw [h' w hw, show min 4 (20 - 4 * w) = 4 by omega, show 20 * j + 4 * w = 4 * (5 * j + w) by omega]
  obtain ⟨s2, e2, f2, l2, p2, b0, b1, b2, b3, b4⟩ := ty_app (s := s') (L := 20 * j) (by rw [f' 45 (by omega)]; exact h.1) (by omega) (s' c 0) (s' c 1) (s' c 2) (s' c 3) (s' c 4)
  rw [hw 0 (by omega)] at b0
  rw [hw 1 (by omega)] at b1
  rw [hw 2 (by omega)] at b2
  rw [hw 3 (by omega)] at b3
  rw [hw 4 (by omega)] at b4
  have k0 := kb0 (5 * j + 0) (by omega)
  have k1 := kb0 (5 * j + 1) (by omega)
  have k2 := kb0 (5 * j + 2) (by omega)
  have k3 := kb0 (5 * j + 3) (by omega)
  have k4 := kb0 (5 * j + 4) (by omega)
  refine ⟨s2, ?_, ?_, fun i hi => ?_, fun a h1 h2 h3 => ?_⟩
  · rw [show (0 : Int32) = nI 0 from rfl, e, f_L_type_i, if_pos (show (20 : Int32) ≤ nI 20 from by decide), e2, Option.bind_some]
    dsimp only
    rw [Sum.elim_inl, show nI (20 * j) + 20 = nI (20 * j + 20) from nI_add _ 20]
    rfl
  · rw [l2]; rfl
  · by_cases c1 : i < 20 * j
    · rw [p2 i c1, f' 47 (by omega)]; exact h.2.1 i c1
    · obtain ⟨r, hr, rfl⟩ : ∃ r, r < 20 ∧ i = 20 * j + r := ⟨i - 20 * j, by omega, by omega⟩
      have key : ∀ q w, q < 5 → (s2 47 (20 * j + 4 * q) = cB (pw (4 * (5 * j + q)) 4) 24 ∧ s2 47 (20 * j + (4 * q + 1)) = cB (pw (4 * (5 * j + q)) 4) 16 ∧ s2 47 (20 * j + (4 * q + 2)) = cB (pw (4 * (5 * j + q)) 4) 8 ∧ s2 47 (20 * j + (4 * q + 3)) = cB (pw (4 * (5 * j + q)) 4) 0) → w < 4 → s2 47 (20 * j + (4 * q + w)) = nI (kTx (20 * j + (4 * q + w))) := by
        intro q w hq ⟨x0, x1, x2, x3⟩ hw4
        obtain ⟨y0, y1, y2, y3⟩ := kb0 (5 * j + q) (by omega)
        have ex : 20 * j + (4 * q + w) = 4 * (5 * j + q) + w := by omega
        rw [ex]
        match w, hw4 with
        | 0, _ => rw [show 4 * (5 * j + q) + 0 = 20 * j + 4 * q by omega, x0, y0, show 4 * (5 * j + q) = 20 * j + 4 * q by omega]
        | 1, _ => rw [← y1, ← x1]; congr 1; omega
        | 2, _ => rw [← y2, ← x2]; congr 1; omega
        | 3, _ => rw [← y3, ← x3]; congr 1; omega
      have hq : r = 4 * (r / 4) + r % 4 := by omega
      rw [hq]
      have h5 : r / 4 < 5 := by omega
      generalize r / 4 = q at h5
      refine key q (r % 4) h5 ?_ (by omega)
      match q, h5 with
      | 0, _ => exact b0
      | 1, _ => exact b1
      | 2, _ => exact b2
      | 3, _ => exact b3
      | 4, _ => exact b4
  · rw [f2 a h1 h2, f' a (by omega)]; exact h.2.2 a h1 h2 h3
theorem ty_all {s0 : ga_M} : ∀ (cs : List Nat) (j : Nat) (s : ga_M), j + cs.length = 12 → (∀ c, c ∈ cs → 72 ≤ c) → tyI s0 j s → ∃ s2, f_L_type_o cs (nI (20 * j)) s = some s2 ∧ cX kTx 231 s2 ∧ ∀ c, c ≠ 45 → c ≠ 47 → c < 72 → s2 c = s0 c := by
  intro cs
  induction cs with
  | nil =>
    intro j s hj hc h
    obtain rfl : j = 12 := by simpa using hj
    refine ⟨ga_up s 45 1 (nI 231), ?_, ⟨d_up_eq, fun i hi => by rw [d_up_ne (by decide)]; exact h.2.1 i (by omega)⟩, fun c h1 h2 h3 => by rw [d_up_ne h1]; exact h.2.2 c h1 h2 h3⟩
    rw [f_L_type_o, kX_sl, Option.bind_some, if_pos (show nI 231 ≤ nI (20 * 12) from by decide), Option.bind_some, fe_X11_truncateText]
    unfold fb_X11_truncateText
    rw [if_neg (show ¬ nI 231 < 0 from by decide), h.1, if_pos (show nI 231 ≤ nI (20 * 12) from by decide)]
    rfl
  | cons c cs ih =>
    intro j s hj hc h
    have hj2 : j + 1 + cs.length = 12 := by simp at hj; omega
    obtain ⟨s1, e1, h1⟩ := ty_word (c := c) (go := fun l2 s => f_L_type_o cs l2 s) (show j < 12 by omega) (hc c List.mem_cons_self) h
    obtain ⟨s2, e2, r⟩ := ih (j + 1) s1 hj2 (fun c' h' => hc c' (List.mem_cons_of_mem _ h')) h1
    refine ⟨s2, ?_, r⟩
    rw [f_L_type_o, kX_sl, Option.bind_some, if_neg (nI_ge (a := 20 * j) (b := 231) (by omega) (by omega)), e1]
    exact e2
theorem ty_done (h : s 45 1 = 0) : ∃ s2, f_L_type s = some s2 ∧ cX kTx 231 s2 ∧ ∀ c, c ≠ 45 → c ≠ 47 → c < 72 → s2 c = s c := by
  obtain ⟨s2, e, r⟩ := ty_all (s0 := s) [72, 73, 74, 75, 76, 77, 78, 79, 80, 81, 82, 83] 0 s rfl (by decide) ⟨h, fun i hi => by omega, fun _ _ _ _ => rfl⟩
  exact ⟨s2, by rw [fe_L_type]; exact e, r⟩
end E9
