section D42
/-! ===== the report ===== -/
variable {N : Nat → Nat} {Q P : Nat → Nat → Int32} {s : ga_M} {m : Nat} {H : Nat → Nat → Nat → Int32}
def wL (N : Nat → Nat) (Q P : Nat → Nat → Int32) (x g : Int32) : List Nat :=
  if aAtC N Q P x g = -1 then [45] else [48 + (Q 6 (aAtC N Q P x g).toNatClampNeg).toNatClampNeg, 46] ++ (if P 1 (aAtC N Q P x g).toNatClampNeg = -1 then [63] else [48 + (P 1 (aAtC N Q P x g).toNatClampNeg).toNatClampNeg]) ++ (if P 3 (aAtC N Q P x g).toNatClampNeg = 1 then [33] else [])
def wT (N : Nat → Nat) (Q P : Nat → Nat → Int32) (g : Int32) : Nat → List Nat
  | 0 => []
  | j + 1 => wT N Q P g j ++ wL N Q P (nI j) g ++ [if j % N 1 + 1 = N 1 then 10 else 32]
theorem wL_len (x g : Int32) : (wL N Q P x g).length ≤ 4 := by
  unfold wL
  split
  · simp
  · split <;> split <;> simp
theorem wT_len (g : Int32) : ∀ j, (wT N Q P g j).length ≤ 5 * j := by
  intro j
  induction j with
  | zero => simp [wT]
  | succ j ih =>
    have := wL_len (N := N) (Q := Q) (P := P) (nI j) g
    unfold wT
    simp
    omega
def cO (s : ga_M) (o : List Nat) : Prop := s 69 3 = nI o.length ∧ ∀ i, i < o.length → s 71 i = nI (o.getD i 0)
def mO (s : ga_M) (o : List Nat) : Prop := s 72 19 = nI o.length ∧ ∀ i, i < o.length → s 81 i = nI (o.getD i 0)
def rF (s s2 : ga_M) : Prop := ∀ c, c ≠ 69 → c ≠ 71 → s2 c = s c
def rG (s s2 : ga_M) : Prop := (∀ c, c ≠ 72 → c ≠ 81 → s2 c = s c) ∧ ∀ f, f ≠ 19 → s2 72 f = s 72 f
theorem rF_trans {s s1 s2 : ga_M} (h : rF s s1) (h2 : rF s1 s2) : rF s s2 := fun c a b => (h2 c a b).trans (h c a b)
theorem rG_trans {s s1 s2 : ga_M} (h : rG s s1) (h2 : rG s1 s2) : rG s s2 := ⟨fun c a b => (h2.1 c a b).trans (h.1 c a b), fun f a => (h2.2 f a).trans (h.2 f a)⟩
theorem rF_dC {s s2 : ga_M} (h : rF s s2) (hC : dC N Q P s) : dC N Q P s2 := dC_lt (fun c hc => h c (by omega) (by omega)) hC
theorem rG_dM {s s2 : ga_M} (h : rG s s2) (hM : dM N Q P s) : dM N Q P s2 := dM_cong (h.1 73 (by omega) (by omega)) (h.1 75 (by omega) (by omega)) hM
theorem getD_app (o : List Nat) (c i : Nat) (h : i < (o ++ [c]).length) : (o ++ [c]).getD i 0 = if i = o.length then c else o.getD i 0 := by
  by_cases e : i = o.length
  · rw [if_pos e, e]; simp
  · rw [if_neg e, List.getD_eq_getElem?_getD, List.getD_eq_getElem?_getD, List.getElem?_append_left (by simp at h; omega)]
theorem c_app {o : List Nat} (h : cO s o) (hl : o.length < 150) (c : Nat) : cO (v_X5_append (nI c) s) (o ++ [c]) ∧ rF s (v_X5_append (nI c) s) := by
  rw [ve_X5_append]; unfold vb_X5_append
  dsimp only
  rw [h.1, d_pt hl (by omega), d_up_ne (show 69 ≠ 71 by decide), h.1, d_p1]
  refine ⟨⟨by rw [d_up_eq]; simp, fun i hi => ?_⟩, fun a a1 a2 => by rw [d_up_ne a1, d_up_ne a2]⟩
  rw [getD_app o c i hi, d_up_ne (by decide)]
  by_cases e : i = o.length
  · rw [if_pos e, e, d_up_eq]
  · rw [if_neg e, d_up_nk (by omega), h.2 i (by simp at hi; omega)]
theorem d_ch : ∀ c, c < 128 → ((nI c).toInt8.toInt32).toInt8.toInt32 = nI c := by decide +kernel
theorem d_48 (k : Nat) : (48 : Int32) + nI k = nI (48 + k) := nI_add 48 k
theorem c_writeLesson (hW : dW N Q P) (h : dC N Q P s) {o : List Nat} (ho : cO s o) (hl : o.length + 4 ≤ 150) (x g : Int32) : cO (v_X5_writeLesson (aAtC N Q P x g) s) (o ++ wL N Q P x g) ∧ rF s (v_X5_writeLesson (aAtC N Q P x g) s) := by
  have hN := hW.1
  have hB := dWN_b hN
  rw [ve_X5_writeLesson]; unfold vb_X5_writeLesson wL
  dsimp only
  rcases dFind_spec (fun k => decide (P 0 k = x) && decide (Q 5 k = g)) (N 6) with ⟨h1, h2⟩ | ⟨k, h1, h2, h3, h4⟩
  · have e : aAtC N Q P x g = -1 := h1
    rw [e, if_pos rfl, if_pos rfl]
    exact c_app ho (by omega) 45
  · have e : aAtC N Q P x g = nI k := h2
    have hk1 : ¬ nI k = -1 := d_ne1 (by omega)
    obtain ⟨q, hq, eq⟩ := hW.2.1.1 k h1
    rw [e, if_neg hk1, if_neg hk1, d_cl (show k < 2147483648 by omega), d_at (show k < 40 by omega) (by omega), dc13 h h1, eq, d_48, d_cl (show q < 2147483648 by omega)]
    obtain ⟨a1, f1⟩ := c_app ho (by omega) (48 + q)
    have g1 := rF_dC f1 h
    generalize v_X5_append (nI (48 + q)) s = s1 at a1 f1 g1 ⊢
    obtain ⟨a2, f2⟩ := c_app a1 (by simp; omega) 46
    have g2 := rF_dC f2 g1
    rw [show v_X5_append 46 s1 = v_X5_append (nI 46) s1 from rfl]
    generalize v_X5_append (nI 46) s1 = s2 at a2 f2 g2 ⊢
    have e2 : o ++ [48 + q] ++ [46] = o ++ [48 + q, 46] := by simp
    rw [e2] at a2
    rw [dc_isOpen hN g2 h1]
    by_cases c1 : P 1 k = -1
    · rw [decide_eq_true c1, if_neg (show ¬ aB true = 0 by decide), if_pos c1]
      obtain ⟨a3, f3⟩ := c_app a2 (by simp; omega) 63
      have g3 := rF_dC f3 g2
      rw [show v_X5_append 63 s2 = v_X5_append (nI 63) s2 from rfl]
      generalize v_X5_append (nI 63) s2 = s3 at a3 f3 g3 ⊢
      rw [dc_isSupervised hN g3 h1]
      by_cases c2 : P 3 k = 1
      · rw [decide_eq_true c2, if_neg (show ¬ aB true = 0 by decide), if_pos c2, show v_X5_append 33 s3 = v_X5_append (nI 33) s3 from rfl]
        obtain ⟨a4, f4⟩ := c_app a3 (by simp; omega) 33
        exact ⟨by simpa using a4, rF_trans f1 (rF_trans f2 (rF_trans f3 f4))⟩
      · rw [decide_eq_false c2, if_pos (show aB false = 0 from rfl), if_neg c2]
        exact ⟨by simpa using a3, rF_trans f1 (rF_trans f2 f3)⟩
    · rcases hW.2.2.2.1 k h1 with e1 | ⟨t, ht, et⟩
      · exact absurd e1 c1
      rw [decide_eq_false c1, if_pos (show aB false = 0 from rfl), if_neg c1, d_at (show k < 40 by omega) (by omega), dc24 g2 h1, et, d_48, d_cl (show t < 2147483648 by omega)]
      obtain ⟨a3, f3⟩ := c_app a2 (by simp; omega) (48 + t)
      have g3 := rF_dC f3 g2
      generalize v_X5_append (nI (48 + t)) s2 = s3 at a3 f3 g3 ⊢
      rw [dc_isSupervised hN g3 h1]
      by_cases c2 : P 3 k = 1
      · rw [decide_eq_true c2, if_neg (show ¬ aB true = 0 by decide), if_pos c2, show v_X5_append 33 s3 = v_X5_append (nI 33) s3 from rfl]
        obtain ⟨a4, f4⟩ := c_app a3 (by simp; omega) 33
        exact ⟨by simpa using a4, rF_trans f1 (rF_trans f2 (rF_trans f3 f4))⟩
      · rw [decide_eq_false c2, if_pos (show aB false = 0 from rfl), if_neg c2]
        exact ⟨by simpa using a3, rF_trans f1 (rF_trans f2 f3)⟩
/-- a day's line -/
theorem c_line (hW : dW N Q P) (go7 : Int32 → Int32 → ga_M → Option ga_M) {d : Nat} (hd : d < N 0) (g : Int32) (h : dC N Q P s) (ho : cO s (wT N Q P g (d * N 1))) : ∃ s2, f_X5_write_h20 go7 ga_fuel g (nI d) 0 s = go7 g (nI (d + 1)) s2 ∧ cO s2 (wT N Q P g ((d + 1) * N 1)) ∧ rF s s2 := by
  have hN := hW.1
  have hB := dWN_b hN
  have hdN : d * N 1 + N 1 ≤ 30 := by
    have : (d + 1) * N 1 ≤ N 0 * N 1 := Nat.mul_le_mul_right _ (by omega)
    have h2 : N 0 * N 1 ≤ 30 := hB.2.2.2.2.2.2.2
    rw [Nat.add_mul, Nat.one_mul] at this
    omega
  have hmod : ∀ p, p < N 1 → (d * N 1 + p) % N 1 = p := fun p hp => by rw [Nat.mul_comm, Nat.mul_add_mod, Nat.mod_eq_of_lt hp]
  obtain ⟨s2, e2, i1, i2⟩ := d_sl (F := fun n k t => f_X5_write_h20 go7 n g (nI d) (nI k) t) (M := N 1) (G := fun t => go7 g (nI (d + 1)) (v_X5_append 10 t))
    (I := fun k t => rF s t ∧ cO t (match k with
      | 0 => wT N Q P g (d * N 1)
      | p + 1 => wT N Q P g (d * N 1 + p) ++ wL N Q P (nI (d * N 1 + p)) g))
    (fun n k t hk hI => by
      obtain ⟨h1, h2⟩ := hI
      have hC := rF_dC h1 h
      cases k with
      | zero =>
        have hl := wT_len (N := N) (Q := Q) (P := P) g (d * N 1)
        have h2 : cO t (wT N Q P g (d * N 1)) := h2
        obtain ⟨b1, b2⟩ := c_writeLesson hW hC h2 (by omega) (nI (d * N 1 + 0)) g
        refine ⟨_, ?_, rF_trans h1 b2, b1⟩
        show f_X5_write_h20 go7 (n + 1) g (nI d) (nI 0) t = _
        rw [f_X5_write_h20]
        dsimp only
        rw [dcN hC (by decide), if_neg (nI_ge hk (by omega)), if_pos (show nI 0 ≤ 0 by decide), pk_mul, nI_add, dc_lessonAt_10 hN hC, Option.bind_some, d_p1]
      | succ p =>
        have hl := wT_len (N := N) (Q := Q) (P := P) g (d * N 1 + p)
        have hl2 := wL_len (N := N) (Q := Q) (P := P) (nI (d * N 1 + p)) g
        have h2 : cO t (wT N Q P g (d * N 1 + p) ++ wL N Q P (nI (d * N 1 + p)) g) := h2
        obtain ⟨a1, a2⟩ := c_app h2 (by simp; omega) 32
        have hC2 := rF_dC a2 hC
        have ew : wT N Q P g (d * N 1 + p) ++ wL N Q P (nI (d * N 1 + p)) g ++ [32] = wT N Q P g (d * N 1 + (p + 1)) := by
          show _ = wT N Q P g ((d * N 1 + p) + 1)
          rw [wT, hmod p (by omega), if_neg (by omega)]
        rw [ew] at a1
        have hl3 := wT_len (N := N) (Q := Q) (P := P) g (d * N 1 + (p + 1))
        obtain ⟨b1, b2⟩ := c_writeLesson hW hC2 a1 (by omega) (nI (d * N 1 + (p + 1))) g
        refine ⟨_, ?_, rF_trans h1 (rF_trans a2 b2), b1⟩
        show f_X5_write_h20 go7 (n + 1) g (nI d) (nI (p + 1)) t = _
        rw [f_X5_write_h20]
        dsimp only
        rw [dcN hC (by decide), if_neg (nI_ge hk (by omega)), if_neg (nI_nle (show 0 < p + 1 by omega) (by omega)), show v_X5_append 32 t = v_X5_append (nI 32) t from rfl, dcN hC2 (by decide), pk_mul, nI_add, dc_lessonAt_10 hN hC2, Option.bind_some, d_p1])
    (fun n t hI => by
      have hC := rF_dC hI.1 h
      show f_X5_write_h20 go7 (n + 1) g (nI d) (nI (N 1)) t = _
      rw [f_X5_write_h20]
      dsimp only
      rw [dcN hC (by decide), if_pos (nI_le (Nat.le_refl _) (by omega)), d_p1]) (N 1) 0 ga_fuel s (by omega) (d_fuel (by omega)) ⟨fun _ _ _ => rfl, ho⟩
  obtain ⟨p, hp⟩ : ∃ p, N 1 = p + 1 := ⟨N 1 - 1, by omega⟩
  have i2' : cO s2 (wT N Q P g (d * N 1 + p) ++ wL N Q P (nI (d * N 1 + p)) g) := by
    have := i2
    rw [hp] at this
    rw [hp]
    exact this
  have hl := wT_len (N := N) (Q := Q) (P := P) g (d * N 1 + p)
  have hl2 := wL_len (N := N) (Q := Q) (P := P) (nI (d * N 1 + p)) g
  obtain ⟨a1, a2⟩ := c_app i2' (by simp; omega) 10
  have ew : wT N Q P g (d * N 1 + p) ++ wL N Q P (nI (d * N 1 + p)) g ++ [10] = wT N Q P g ((d + 1) * N 1) := by
    rw [show (d + 1) * N 1 = (d * N 1 + p) + 1 by rw [Nat.add_mul, Nat.one_mul]; omega, wT, hmod p (by omega), if_pos (by omega)]
  rw [ew] at a1
  exact ⟨_, e2, a1, rF_trans i1 a2⟩
theorem c_write (hW : dW N Q P) (g : Int32) (h : dC N Q P s) : ∃ s2, f_X5_write g s = some s2 ∧ cO s2 (wT N Q P g (dSl N)) ∧ rF s s2 := by
  have hN := hW.1
  have hB := dWN_b hN
  rw [fe_X5_write]; unfold fb_X5_write
  dsimp only
  have h0 : dC N Q P (ga_up s 69 3 0) := dC_lt (fun c hc => d_up_ne (by omega)) h
  obtain ⟨s2, e2, i1, i2⟩ := d_sl (F := fun n k t => f_X5_write_h7 n g (nI k) t) (M := N 0) (G := some) (I := fun k t => rF s t ∧ cO t (wT N Q P g (k * N 1)))
    (fun n k t hk hI => by
      have hC := rF_dC hI.1 h
      obtain ⟨s3, e3, a3, f3⟩ := c_line hW (f_X5_write_h7 n) hk g hC hI.2
      refine ⟨s3, ?_, rF_trans hI.1 f3, a3⟩
      show f_X5_write_h7 (n + 1) g (nI k) t = _
      rw [f_X5_write_h7, dcN hC (by decide), if_neg (nI_ge hk (by omega))]
      exact e3)
    (fun n t hI => by
      have hC := rF_dC hI.1 h
      show f_X5_write_h7 (n + 1) g (nI (N 0)) t = _
      rw [f_X5_write_h7, dcN hC (by decide), if_pos (nI_le (Nat.le_refl _) (by omega))]) (N 0) 0 ga_fuel (ga_up s 69 3 0) (by omega) (d_fuel (by omega)) ⟨fun c a1 _ => d_up_ne a1, by rw [Nat.zero_mul]; exact ⟨d_up_eq, fun i hi => by simp [wT] at hi⟩⟩
  exact ⟨s2, e2, i2, i1⟩
end D42
