section D41
variable {N : Nat → Nat} {Q P : Nat → Nat → Int32} {s : ga_M} {m : Nat} {H : Nat → Nat → Nat → Int32}
theorem dI_mk {s2 : ga_M} (h : dI N Q P m H s) (e1 : ∀ c, c ≤ 44 → s2 c = s c) (e73 : s2 73 = s 73) (e75 : s2 75 = s 75) (e77 : s2 77 = s 77) (e5 : s2 72 5 = s 72 5) (ht : dTx s2) (he : dEr s2) (hr : dRe s2) : dI N Q P m H s2 := by
  obtain ⟨h1, h2, h3, h4, h5, h6, h7, h8, h9⟩ := h
  exact ⟨h1, h2, dC_lt (fun c hc => e1 c (by omega)) h3, dM_cong e73 e75 h4, dCH_cong (e1 42 (by omega)) (e1 44 (by omega)) h5, dMH_cong e5 e77 h6, ht, he, hr⟩
theorem st_appendText (a b c d e : Int32) : dStep (f_L_appendText_0_82 a b c d e) (f_X12_appendText a b c d e) := by
  intro s ⟨N, Q, P, m, H, h⟩
  obtain ⟨L, hL, t1, t2, t3⟩ := h.2.2.2.2.2.2.1
  have hEr := h.2.2.2.2.2.2.2.1
  have hRe := h.2.2.2.2.2.2.2.2
  have hp20 : nI L + 20 = nI (L + 20) := nI_add L 20
  by_cases hc : L + 20 ≤ 900
  · obtain ⟨s1, p1, f1, g1, l1, k1⟩ := c_append (s := s) (L := L) (by omega) t1 a
    obtain ⟨s2, p2, f2, g2, l2, k2⟩ := c_append (s := s1) (L := L + 4) (by omega) l1 b
    obtain ⟨s3, p3, f3, g3, l3, k3⟩ := c_append (s := s2) (L := L + 4 + 4) (by omega) l2 c
    obtain ⟨s4, p4, f4, g4, l4, k4⟩ := c_append (s := s3) (L := L + 4 + 4 + 4) (by omega) l3 d
    obtain ⟨s5, p5, f5, g5, l5, k5⟩ := c_append (s := s4) (L := L + 4 + 4 + 4 + 4) (by omega) l4 e
    have fc : ∀ x, x ≠ 45 → x ≠ 47 → s5 x = s x := fun x x1 x2 => by rw [f5 x x1 x2, f4 x x1 x2, f3 x x1 x2, f2 x x1 x2, f1 x x1 x2]
    have gc : ∀ f, f ≠ 1 → s5 45 f = s 45 f := fun f x1 => by rw [g5 f x1, g4 f x1, g3 f x1, g2 f x1, g1 f x1]
    have hC : f_L_appendText_0_82 a b c d e s = some (.inl 0, ga_up s5 82 0 (nI (L + 20))) := by
      have e1 : f_X11_appendText a b c d e s = some (.inl (nI (L + 20)), s5) := by
        rw [fe_X11_appendText]; unfold fb_X11_appendText
        rw [t1, hp20, if_pos (show nI (L + 20) ≤ 900 from nI_le (b := 900) hc (by omega)), p1, Option.bind_some, p2, Option.bind_some, p3, Option.bind_some, p4, Option.bind_some, p5, Option.bind_some, l5]
      rw [fe_L_appendText_0_82]; unfold fb_L_appendText_0_82
      rw [e1, Option.bind_some]
      show (if (nI (L + 20)).toInt64.toInt32.toInt64 = (nI (L + 20)).toInt64 then some ((Sum.inl 0 : Int32 ⊕ Nat), ga_up s5 82 0 (nI (L + 20)).toInt64.toInt32) else none) = _
      rw [d_i64, if_pos rfl]
    generalize ht0 : ga_up (ga_up s5 82 0 (nI (L + 20))) 72 6 0 = u0
    have u12 : u0 72 12 = nI L := by rw [← ht0, d_up_nk (by decide), d_up_ne (by decide), fc 72 (by decide) (by decide)]; exact t2
    obtain ⟨u1, q1, v1, w1, x1, y1⟩ := m_bring (s := u0) (L := L) (by omega) u12 a
    obtain ⟨u2, q2, v2, w2, x2, y2⟩ := m_bring (s := u1) (L := L + 4) (by omega) x1 b
    obtain ⟨u3, q3, v3, w3, x3, y3⟩ := m_bring (s := u2) (L := L + 4 + 4) (by omega) x2 c
    obtain ⟨u4, q4, v4, w4, x4, y4⟩ := m_bring (s := u3) (L := L + 4 + 4 + 4) (by omega) x3 d
    obtain ⟨u5, q5, v5, w5, x5, y5⟩ := m_bring (s := u4) (L := L + 4 + 4 + 4 + 4) (by omega) x4 e
    have vc : ∀ x, x ≠ 72 → x ≠ 80 → u5 x = u0 x := fun x a1 a2 => by rw [v5 x a1 a2, v4 x a1 a2, v3 x a1 a2, v2 x a1 a2, v1 x a1 a2]
    have wc : ∀ f, f ≠ 12 → u5 72 f = u0 72 f := fun f a1 => by rw [w5 f a1, w4 f a1, w3 f a1, w2 f a1, w1 f a1]
    have hM : f_X12_appendText a b c d e (ga_up s5 82 0 (nI (L + 20))) = some (nI (L + 20), u5) := by
      rw [fe_X12_appendText]; unfold fb_X12_appendText
      dsimp only
      rw [d_up_ne (show 72 ≠ 82 by decide), fc 72 (by decide) (by decide), t2, hp20, if_pos (show nI (L + 20) ≤ 900 from nI_le (b := 900) hc (by omega)), ht0, q1, Option.bind_some, q2, Option.bind_some, q3, Option.bind_some, q4, Option.bind_some, q5, Option.bind_some, x5]
    have u0c : ∀ x, x ≠ 72 → x ≠ 82 → u0 x = s5 x := fun x a1 a2 => by rw [← ht0, d_up_ne a1, d_up_ne a2]
    have hR0 : ∀ i, i < L → dRb (s 47 i) (u0 80 i) := fun i hi => by
      rw [u0c 80 (by decide) (by decide), fc 80 (by decide) (by decide)]
      exact t3 i hi
    have hR := dRb_4 (dRb_4 (dRb_4 (dRb_4 (dRb_4 hR0 k1 y1) k2 y2) k3 y3) k4 y4) k5 y5
    refine ⟨0, _, _, u5, hC, hM, ?_, fun _ => ?_, N, Q, P, m, H, dI_mk h ?_ ?_ ?_ ?_ ?_ ?_ ?_ ?_⟩
    · rw [d_thrown, wc 6 (by decide), ← ht0, d_up_eq]
    · rw [vc 82 (by decide) (by decide), ← ht0, d_up_ne (by decide), d_up_eq]
    · intro x hx; rw [vc x (by omega) (by omega), u0c x (by omega) (by omega), fc x (by omega) (by omega)]
    · rw [vc 73 (by omega) (by omega), u0c 73 (by omega) (by omega), fc 73 (by omega) (by omega)]
    · rw [vc 75 (by omega) (by omega), u0c 75 (by omega) (by omega), fc 75 (by omega) (by omega)]
    · rw [vc 77 (by omega) (by omega), u0c 77 (by omega) (by omega), fc 77 (by omega) (by omega)]
    · rw [wc 5 (by omega), ← ht0, d_up_nk (by omega), d_up_ne (by omega), fc 72 (by omega) (by omega)]
    · refine ⟨L + 20, by omega, ?_, x5, fun i hi => ?_⟩
      · rw [vc 45 (by omega) (by omega), u0c 45 (by omega) (by omega)]; exact l5
      · rw [vc 47 (by omega) (by omega), u0c 47 (by omega) (by omega)]; exact hR i hi
    · unfold dEr at *
      rw [vc 45 (by omega) (by omega), u0c 45 (by omega) (by omega), gc 6 (by omega), gc 7 (by omega), wc 16 (by omega), wc 17 (by omega), ← ht0, d_up_nk (show ¬ (72 = 72 ∧ 16 = 6) by omega), d_up_nk (show ¬ (72 = 72 ∧ 17 = 6) by omega), d_up_ne (by omega), fc 72 (by omega) (by omega)]
      exact hEr
    · refine dRe_cong ?_ ?_ ?_ ?_ hRe
      · rw [vc 69 (by omega) (by omega), u0c 69 (by omega) (by omega), fc 69 (by omega) (by omega)]
      · rw [vc 71 (by omega) (by omega), u0c 71 (by omega) (by omega), fc 71 (by omega) (by omega)]
      · rw [wc 19 (by omega), ← ht0, d_up_nk (by omega), d_up_ne (by omega), fc 72 (by omega) (by omega)]
      · rw [vc 81 (by omega) (by omega), u0c 81 (by omega) (by omega), fc 81 (by omega) (by omega)]
  · have hno : ¬ nI (L + 20) ≤ 900 := nI_ge (a := 900) (by omega) (by omega)
    refine ⟨1, s, 0, ga_up s 72 6 1, ?_, ?_, by rw [d_thrown, d_up_eq], fun e => absurd e (by decide), N, Q, P, m, H, dI_726 h 1⟩
    · have e1 : f_X11_appendText a b c d e s = some (.inr 1, s) := by
        rw [fe_X11_appendText]; unfold fb_X11_appendText
        rw [t1, hp20, if_neg hno]
      rw [fe_L_appendText_0_82]; unfold fb_L_appendText_0_82
      rw [e1, Option.bind_some]
      rfl
    · rw [fe_X12_appendText]; unfold fb_X12_appendText
      rw [t2, hp20, if_neg hno, ve_X12_no]
      rfl
theorem st_truncateText (a : Int32) : dStep (f_L_truncateText_0_82 a) (fun s => some (v_X12_truncateText a s)) := by
  intro s ⟨N, Q, P, m, H, h⟩
  obtain ⟨L, hL, t1, t2, t3⟩ := h.2.2.2.2.2.2.1
  have hEr := h.2.2.2.2.2.2.2.1
  have hRe := h.2.2.2.2.2.2.2.2
  rcases d_in a (L + 1) (by omega) with ⟨j, hj, rfl⟩ | ⟨hr, hn⟩
  · have hin : ∀ t : ga_M, v_X12_in (nI j).toInt64 (0 : Int32).toInt64 (nI L).toInt64 t = 1 := fun t => dm_inY (n := L + 1) (K := nI L) (by omega) (nI_pred L) ⟨j, hj, rfl⟩
    have e1 : f_X11_truncateText (nI j) s = some (.inl (nI j), ga_up s 45 1 (nI j)) := by
      rw [fe_X11_truncateText]; unfold fb_X11_truncateText
      rw [if_neg (nI_pos (by omega)), t1, if_pos (nI_le (by omega) (by omega))]
    have hC : f_L_truncateText_0_82 (nI j) s = some (.inl 0, ga_up (ga_up s 45 1 (nI j)) 82 0 (nI j)) := by
      rw [fe_L_truncateText_0_82]; unfold fb_L_truncateText_0_82
      rw [e1, Option.bind_some]
      show (if (nI j).toInt64.toInt32.toInt64 = (nI j).toInt64 then some ((Sum.inl 0 : Int32 ⊕ Nat), ga_up (ga_up s 45 1 (nI j)) 82 0 (nI j).toInt64.toInt32) else none) = _
      rw [d_i64, if_pos rfl]
    generalize hu : ga_up (ga_up s 45 1 (nI j)) 82 0 (nI j) = u at hC
    have uc : ∀ x, x ≠ 45 → x ≠ 82 → u x = s x := fun x a1 a2 => by rw [← hu, d_up_ne a2, d_up_ne a1]
    have hM : v_X12_truncateText (nI j) u = (nI j, ga_up (ga_up u 72 6 0) 72 12 (nI j)) := by
      rw [ve_X12_truncateText]; unfold vb_X12_truncateText
      rw [uc 72 (by decide) (by decide), t2, hin, if_neg (by decide)]
    refine ⟨0, u, nI j, _, hC, congrArg some hM, ?_, fun _ => ?_, N, Q, P, m, H, dI_mk h ?_ ?_ ?_ ?_ ?_ ?_ ?_ ?_⟩
    · rw [d_thrown, d_up_nk (by omega), d_up_eq]
    · rw [d_up_ne (by decide), d_up_ne (by decide), ← hu, d_up_eq]
    · intro x hx; rw [d_up_ne (by omega), d_up_ne (by omega), uc x (by omega) (by omega)]
    · rw [d_up_ne (by omega), d_up_ne (by omega), uc 73 (by omega) (by omega)]
    · rw [d_up_ne (by omega), d_up_ne (by omega), uc 75 (by omega) (by omega)]
    · rw [d_up_ne (by omega), d_up_ne (by omega), uc 77 (by omega) (by omega)]
    · rw [d_up_nk (by omega), d_up_nk (by omega), uc 72 (by omega) (by omega)]
    · refine ⟨j, by omega, ?_, d_up_eq, fun i hi => ?_⟩
      · rw [d_up_ne (by omega), d_up_ne (by omega), ← hu, d_up_ne (by omega), d_up_eq]
      · rw [d_up_ne (by omega), d_up_ne (by omega), uc 47 (by omega) (by omega), d_up_ne (by omega), d_up_ne (by omega), uc 80 (by omega) (by omega)]
        exact t3 i (by omega)
    · unfold dEr at *
      rw [d_up_ne (by omega), d_up_ne (by omega), d_up_nk (by omega), d_up_nk (by omega), d_up_nk (by omega), d_up_nk (by omega), uc 72 (by omega) (by omega), ← hu, d_up_ne (by omega), d_up_nk (by omega), d_up_nk (by omega)]
      exact hEr
    · refine dRe_cong ?_ ?_ ?_ ?_ hRe
      · rw [d_up_ne (by omega), d_up_ne (by omega), uc 69 (by omega) (by omega)]
      · rw [d_up_ne (by omega), d_up_ne (by omega), uc 71 (by omega) (by omega)]
      · rw [d_up_nk (by omega), d_up_nk (by omega), uc 72 (by omega) (by omega)]
      · rw [d_up_ne (by omega), d_up_ne (by omega), uc 81 (by omega) (by omega)]
  · have hin : ∀ t : ga_M, v_X12_in a.toInt64 (0 : Int32).toInt64 (nI L).toInt64 t = 0 := fun t => dm_inN (n := L + 1) (K := nI L) (by omega) (nI_pred L) hn
    refine ⟨1, s, 0, ga_up s 72 6 1, ?_, ?_, by rw [d_thrown, d_up_eq], fun e => absurd e (by decide), N, Q, P, m, H, dI_726 h 1⟩
    · have e1 : f_X11_truncateText a s = some (.inr 2, s) := by
        rw [fe_X11_truncateText]; unfold fb_X11_truncateText
        rw [t1]
        by_cases c : a < 0
        · rw [if_pos c]
        · rw [if_neg c]
          have : nI (L + 1) ≤ a := hr.resolve_left c
          have h2 : ¬ a ≤ nI L := by
            rw [Int32.le_iff_toInt_le, nI_toInt (by omega)] at this ⊢
            omega
          rw [if_neg h2]
      rw [fe_L_truncateText_0_82]; unfold fb_L_truncateText_0_82
      rw [e1, Option.bind_some]
      rfl
    · show some (v_X12_truncateText a s) = _
      rw [ve_X12_truncateText]; unfold vb_X12_truncateText
      rw [t2, hin, if_pos rfl, ve_X12_no]
      rfl
theorem st_reportByte (a : Int32) : dStep (f_L_reportByte_0_82 a) (f_X12_reportByte a) := by
  intro s ⟨N, Q, P, m, H, h⟩
  obtain ⟨r, hr, r1, r2, r3⟩ := h.2.2.2.2.2.2.2.2
  rcases d_in a r (by omega) with ⟨j, hj, rfl⟩ | ⟨hx, hn⟩
  · have hin : ∀ t : ga_M, v_X12_in (nI j).toInt64 (0 : Int32).toInt64 (nI r - 1 : Int32).toInt64 t = 1 := fun t => dm_inL (x := 0) (by omega) hj
    have e1 : v_X11_reportByte (nI j) s = .inl (s 71 j) := by
      rw [ve_X11_reportByte]; unfold vb_X11_reportByte
      rw [if_neg (nI_pos (by omega)), r1, if_pos (nI_lt hj (by omega)), d_at (show j < 150 by omega) (by omega)]
    have hC : f_L_reportByte_0_82 (nI j) s = some (.inl 0, ga_up s 82 0 (s 71 j)) := by
      rw [fe_L_reportByte_0_82]; unfold fb_L_reportByte_0_82
      rw [e1]
      show (if (s 71 j).toInt64.toInt32.toInt64 = (s 71 j).toInt64 then some ((Sum.inl 0 : Int32 ⊕ Nat), ga_up s 82 0 (s 71 j).toInt64.toInt32) else none) = _
      rw [d_i64, if_pos rfl]
    refine ⟨0, _, s 71 j, ga_up (ga_up s 82 0 (s 71 j)) 72 6 0, hC, ?_, by rw [d_thrown, d_up_eq], fun _ => by rw [d_up_ne (by decide), d_up_eq], N, Q, P, m, H, dI_726 (dI_82 h _) 0⟩
    rw [fe_X12_reportByte]; unfold fb_X12_reportByte
    rw [d_up_ne (show 72 ≠ 82 by decide), r2, hin]
    simp only [d_fails1, d_fails0, d_10, d_01, d_00, d_11, true_or, or_true, or_self, if_true, if_false, reduceIte, Option.elim_none, Option.elim_some, Option.bind_some, d_up_up]
    rw [if_neg (nI_in (c := j) (N := 240) (by omega) (by omega)), d_cl (show j < 2147483648 by omega), d_up_ne (by decide), d_up_ne (by decide), r3 j hj]
  · have hin : ∀ t : ga_M, v_X12_in a.toInt64 (0 : Int32).toInt64 (nI r - 1 : Int32).toInt64 t = 0 := fun t => dm_inM (by omega) hn
    refine ⟨1, s, 0, ga_up s 72 6 1, ?_, ?_, by rw [d_thrown, d_up_eq], fun e => absurd e (by decide), N, Q, P, m, H, dI_726 h 1⟩
    · have e1 : v_X11_reportByte a s = .inr 3 := by
        rw [ve_X11_reportByte]; unfold vb_X11_reportByte
        rw [r1]
        rcases hx with hx | hx
        · rw [if_pos hx]
        · rw [if_neg (Int32.not_lt.mpr hx)]
          split <;> rfl
      rw [fe_L_reportByte_0_82]; unfold fb_L_reportByte_0_82
      rw [e1]
      rfl
    · rw [fe_X12_reportByte]; unfold fb_X12_reportByte
      rw [r2, hin]
      simp only [d_fails1, d_fails0, d_10, d_01, d_00, d_11, true_or, or_true, or_self, if_true, if_false, reduceIte, Option.elim_none, Option.elim_some, Option.bind_some, d_up_up]
end D41
