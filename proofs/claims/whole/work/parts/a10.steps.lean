section D40
/-! ===== steps of the law ===== -/
variable {N : Nat → Nat} {Q P : Nat → Nat → Int32} {s : ga_M} {m : Nat} {H : Nat → Nat → Nat → Int32}
def dStep (fL : ga_M → Option ((Int32 ⊕ Nat) × ga_M)) (fM : ga_M → Option (Int32 × ga_M)) : Prop :=
  ∀ s, dIs s → ∃ (k : Int32) (s1 : ga_M) (b : Int32) (s2 : ga_M), fL s = some (.inl k, s1) ∧ fM s1 = some (b, s2) ∧ v_X12_thrown s2 = k ∧ (k = 0 → s2 82 0 = b) ∧ dIs s2
def dStep0 (fC fM : ga_M → Option (Int32 × ga_M)) : Prop := ∀ s, dIs s → ∃ (v : Int32) (s1 s2 : ga_M), fC s = some (v, s1) ∧ fM s1 = some (v, s2) ∧ dIs s2
theorem dI_m (h : dI N Q P m H s) : m ≤ 10 := by
  obtain ⟨_, _, _, _, ⟨o, hr⟩, _⟩ := h
  exact hr.1
theorem d_thrown : v_X12_thrown s = s 72 6 := by rw [ve_X12_thrown]; rfl
theorem d_upc {s s1 : ga_M} {c k : Nat} {v : Int32} (h : dFc s s1) (hc : 45 ≤ c) : dFc (ga_up s c k v) (ga_up s1 c k v) := by
  intro a ha
  by_cases e : a = c
  · subst e; unfold ga_up; rw [if_pos rfl, if_pos rfl, h a ha]
  · rw [d_up_ne e, d_up_ne e, h a ha]
theorem st_co {fc fL : ga_M → Option ((Int32 ⊕ Nat) × ga_M)} {fM : ga_M → Option (Int32 × ga_M)} {a b : Nat} (hco : ∀ N Q P m H, dW N Q P → dWH N m H → m ≤ 10 → dCo N Q P m H fc fM (dK a b)) (hL1 : ∀ s v s1, fc s = some (.inl v, s1) → fL s = some (.inl 0, ga_up s1 82 0 v)) (hL2 : ∀ s e s1, fc s = some (.inr e, s1) → dK a b e ≠ 0 → fL s = some (.inl (dK a b e), s1)) : dStep fL fM := by
  intro s ⟨N, Q, P, m, H, h⟩
  obtain ⟨P2, m2, H2, r, hW2, hX2, hc, hm⟩ := hco N Q P m H h.1 h.2.1 (dI_m h)
  obtain ⟨s1, e1, f1, c1, c2⟩ := hc s h.2.2.1 h.2.2.2.2.1
  cases r with
  | inl v =>
    have h' := dI_82 h v
    have f1' : dFc (ga_up s 82 0 v) (ga_up s1 82 0 v) := d_upc f1 (by omega)
    obtain ⟨bb, s2, g1, g2, g3, g4, g5⟩ := hm (ga_up s1 82 0 v) (dM_cong (by rw [d_up_ne (by decide), f1 73 (by omega)]) (by rw [d_up_ne (by decide), f1 75 (by omega)]) h.2.2.2.1) (dMH_cong (by rw [d_up_ne (by decide), f1 72 (by omega)]) (by rw [d_up_ne (by decide), f1 77 (by omega)]) h.2.2.2.2.2.1)
    obtain ⟨g5, g6⟩ : bb = v ∧ s2 72 6 = 0 := g5
    refine ⟨0, ga_up s1 82 0 v, bb, s2, hL1 s v s1 e1, g1, by rw [d_thrown]; exact g6, fun _ => by rw [g2.2.2.2.1, d_up_eq, g5], N, Q, P2, m2, H2, dI_join h' hW2 hX2 f1' (dC_lt (fun c hc => d_up_ne (by omega)) c1) (dCH_cong (d_up_ne (by decide)) (d_up_ne (by decide)) c2) g2 g3 g4⟩
  | inr e =>
    obtain ⟨bb, s2, g1, g2, g3, g4, g5⟩ := hm s1 (dM_cong (f1 73 (by omega)) (f1 75 (by omega)) h.2.2.2.1) (dMH_cong (by rw [f1 72 (by omega)]) (f1 77 (by omega)) h.2.2.2.2.2.1)
    obtain ⟨g5, g6⟩ : dK a b e ≠ 0 ∧ s2 72 6 = dK a b e := g5
    exact ⟨dK a b e, s1, bb, s2, hL2 s e s1 e1 g5, g1, by rw [d_thrown]; exact g6, fun k0 => absurd k0 g5, N, Q, P2, m2, H2, dI_join h hW2 hX2 f1 c1 c2 g2 g3 g4⟩
theorem dQc_co {fq : ga_M → Option (Int32 ⊕ Nat)} {fm : ga_M → Option (Int32 × ga_M)} {cd : Nat → Int32} (hW : dW N Q P) (hX : dWH N m H) (h : dQc N Q P fq fm cd) : dCo N Q P m H (fun s => (fq s).map fun r => (r, s)) fm cd := by
  rcases h with ⟨v, h1, h2⟩ | ⟨e, h0, h1, h2⟩
  · exact ⟨P, m, H, .inl v, hW, hX, fun s h hh => ⟨s, by show Option.map _ (fq s) = _; rw [h1 s h]; rfl, dFc_refl s, h, hh⟩, fun s h hh => ⟨v, _, h2 s h, dFm_726 s 0, dM_726 h 0, dMH_726 hh 0, rfl, by rw [d_up_eq]⟩⟩
  · refine ⟨P, m, H, .inr e, hW, hX, fun s h hh => ⟨s, by show Option.map _ (fq s) = _; rw [h1 s h]; rfl, dFc_refl s, h, hh⟩, fun s h hh => ?_⟩
    obtain ⟨b, e2⟩ := h2 s h
    exact ⟨b, _, e2, dFm_726 s _, dM_726 h _, dMH_726 hh _, h0, by rw [d_up_eq]⟩
theorem d_map1 {fq : ga_M → Option (Int32 ⊕ Nat)} {r : Int32 ⊕ Nat} {s s1 : ga_M} (h : (fq s).map (fun r => (r, s)) = some (r, s1)) : fq s = some r ∧ s1 = s := by
  cases e : fq s with
  | none => rw [e] at h; cases h
  | some x =>
    rw [e] at h
    have := Option.some.inj h
    exact ⟨by rw [(Prod.mk.inj this).1], (Prod.mk.inj this).2.symm⟩
theorem st_z {fc fM : ga_M → Option (Int32 × ga_M)} (hco : ∀ N Q P m H, dW N Q P → dWH N m H → m ≤ 10 → dCz N Q P m H fc fM) : dStep0 fc fM := by
  intro s ⟨N, Q, P, m, H, h⟩
  obtain ⟨P2, m2, H2, v, hW2, hX2, hc, hm⟩ := hco N Q P m H h.1 h.2.1 (dI_m h)
  obtain ⟨s1, e1, f1, c1, c2⟩ := hc s h.2.2.1 h.2.2.2.2.1
  obtain ⟨s2, g1, g2, g3, g4⟩ := hm s1 (dM_cong (f1 73 (by omega)) (f1 75 (by omega)) h.2.2.2.1) (dMH_cong (by rw [f1 72 (by omega)]) (f1 77 (by omega)) h.2.2.2.2.2.1)
  exact ⟨v, s1, s2, e1, g1, N, Q, P2, m2, H2, dI_join h hW2 hX2 f1 c1 c2 g2 g3 g4⟩
theorem dI_726 (h : dI N Q P m H s) (x : Int32) : dI N Q P m H (ga_up s 72 6 x) := dI_join h h.1 h.2.1 (dFc_refl s) h.2.2.1 h.2.2.2.2.1 (dFm_726 s x) (dM_726 h.2.2.2.1 x) (dMH_726 h.2.2.2.2.2.1 x)
theorem dIs_726 (h : dIs s) (x : Int32) : dIs (ga_up s 72 6 x) := by
  obtain ⟨N, Q, P, m, H, h⟩ := h
  exact ⟨N, Q, P, m, H, dI_726 h x⟩
theorem st_errorCode (h : dIs s) : v_X11_errorCode s = (v_X12_errorCode s).1 ∧ dIs (v_X12_errorCode s).2 := by
  obtain ⟨N, Q, P, m, H, h⟩ := h
  rw [ve_X11_errorCode, ve_X12_errorCode]
  unfold vb_X11_errorCode vb_X12_errorCode
  refine ⟨?_, N, Q, P, m, H, dI_726 h 0⟩
  show s 45 6 = ga_up s 72 6 0 72 16
  rw [d_up_nk (by decide)]
  exact h.2.2.2.2.2.2.2.1.1
theorem st_errorPosition (h : dIs s) : v_X11_errorPosition s = (v_X12_errorPosition s).1 ∧ dIs (v_X12_errorPosition s).2 := by
  obtain ⟨N, Q, P, m, H, h⟩ := h
  rw [ve_X11_errorPosition, ve_X12_errorPosition]
  unfold vb_X11_errorPosition vb_X12_errorPosition
  refine ⟨?_, N, Q, P, m, H, dI_726 h 0⟩
  show s 45 7 = ga_up s 72 6 0 72 17
  rw [d_up_nk (by decide)]
  exact h.2.2.2.2.2.2.2.1.2
theorem st_undoDepth (h : dIs s) : v_X11_undoDepth s = (v_X12_undoDepth s).1 ∧ dIs (v_X12_undoDepth s).2 := by
  obtain ⟨N, Q, P, m, H, h⟩ := h
  rw [ve_X11_undoDepth, ve_X12_undoDepth]
  unfold vb_X11_undoDepth vb_X12_undoDepth
  refine ⟨?_, N, Q, P, m, H, dI_726 h 0⟩
  show s 42 3 = ga_up s 72 6 0 72 5
  rw [d_up_nk (by decide)]
  obtain ⟨o, hr⟩ := h.2.2.2.2.1
  rw [hr.2.2.2.1, h.2.2.2.2.2.1.2.1]
theorem st_spread (h : dIs s) : ∃ v s2, f_X11_spread s = some v ∧ f_X12_spread s = some (v, s2) ∧ dIs s2 := by
  obtain ⟨N, Q, P, m, H, h⟩ := h
  exact ⟨aSpread N Q P, _, dc_spread h.1.1 h.2.2.1, dm_spread h.1.1 h.2.2.2.1, N, Q, P, m, H, dI_726 h 0⟩
theorem st_share (h : dIs s) : ∃ v s2, f_X11_taughtShare s = some v ∧ f_X12_taughtShare s = some (v, s2) ∧ dIs s2 := by
  obtain ⟨N, Q, P, m, H, h⟩ := h
  exact ⟨aShare N P, _, dc_share h.1 h.2.2.1, dm_share h.1 h.2.2.2.1, N, Q, P, m, H, dI_726 h 0⟩
theorem st_repairAll : dStep0 f_X11_repairAll f_X12_repairAll := st_z (fun _ _ _ _ _ hW hX hm => o_repairAll hW hX hm)
theorem st_reset : dStep0 f_X11_reset f_X12_reset := st_z (fun _ _ _ _ _ hW hX hm => o_reset hW hX hm)
theorem st_whyNotCover (a b : Int32) : dStep (f_L_whyNotCover_0_82 a b) (f_X12_whyNotCover a b) := by
  refine st_co (fc := fun s => (f_X11_whyNotCover a b s).map fun r => (r, s)) (a := 3) (b := 3) (fun _ _ _ _ _ hW hX _ => dQc_co hW hX (q_whyNotCover hW a b)) (fun s v s1 h => ?_) (fun s e s1 h he => ?_)
  · obtain ⟨h, rfl⟩ := d_map1 h
    rw [fe_L_whyNotCover_0_82]; unfold fb_L_whyNotCover_0_82
    rw [h, Option.bind_some]
    show (if v.toInt64.toInt32.toInt64 = v.toInt64 then some ((Sum.inl 0 : Int32 ⊕ Nat), ga_up s1 82 0 v.toInt64.toInt32) else none) = _
    rw [d_i64, if_pos rfl]
  · obtain ⟨h, rfl⟩ := d_map1 h
    rw [fe_L_whyNotCover_0_82]; unfold fb_L_whyNotCover_0_82
    rw [h, Option.bind_some]
    show (if e = 3 then some ((Sum.inl 1 : Int32 ⊕ Nat), s1) else some (Sum.inr e, s1)) = some (Sum.inl (dK 3 3 e), s1)
    unfold dK at he ⊢
    by_cases c1 : e = 3
    · rw [if_pos c1, if_pos c1]
    · rw [if_neg c1] at he ⊢
      rw [if_neg c1]
      exact absurd rfl (by rw [if_neg c1] at he; exact he)
theorem st_whyNotSupervise (a b : Int32) : dStep (f_L_whyNotSupervise_0_82 a b) (f_X12_whyNotSupervise a b) := by
  refine st_co (fc := fun s => (f_X11_whyNotSupervise a b s).map fun r => (r, s)) (a := 3) (b := 3) (fun _ _ _ _ _ hW hX _ => dQc_co hW hX (q_whyNotSupervise hW a b)) (fun s v s1 h => ?_) (fun s e s1 h he => ?_)
  · obtain ⟨h, rfl⟩ := d_map1 h
    rw [fe_L_whyNotSupervise_0_82]; unfold fb_L_whyNotSupervise_0_82
    rw [h, Option.bind_some]
    show (if v.toInt64.toInt32.toInt64 = v.toInt64 then some ((Sum.inl 0 : Int32 ⊕ Nat), ga_up s1 82 0 v.toInt64.toInt32) else none) = _
    rw [d_i64, if_pos rfl]
  · obtain ⟨h, rfl⟩ := d_map1 h
    rw [fe_L_whyNotSupervise_0_82]; unfold fb_L_whyNotSupervise_0_82
    rw [h, Option.bind_some]
    show (if e = 3 then some ((Sum.inl 1 : Int32 ⊕ Nat), s1) else some (Sum.inr e, s1)) = some (Sum.inl (dK 3 3 e), s1)
    unfold dK at he ⊢
    by_cases c1 : e = 3
    · rw [if_pos c1, if_pos c1]
    · rw [if_neg c1] at he ⊢
      rw [if_neg c1]
      exact absurd rfl (by rw [if_neg c1] at he; exact he)
theorem st_whyNotExchange (a b : Int32) : dStep (f_L_whyNotExchange_0_82 a b) (f_X12_whyNotExchange a b) := by
  refine st_co (fc := fun s => (f_X11_whyNotExchange a b s).map fun r => (r, s)) (a := 3) (b := 3) (fun _ _ _ _ _ hW hX _ => dQc_co hW hX (q_whyNotExchange hW a b)) (fun s v s1 h => ?_) (fun s e s1 h he => ?_)
  · obtain ⟨h, rfl⟩ := d_map1 h
    rw [fe_L_whyNotExchange_0_82]; unfold fb_L_whyNotExchange_0_82
    rw [h, Option.bind_some]
    show (if v.toInt64.toInt32.toInt64 = v.toInt64 then some ((Sum.inl 0 : Int32 ⊕ Nat), ga_up s1 82 0 v.toInt64.toInt32) else none) = _
    rw [d_i64, if_pos rfl]
  · obtain ⟨h, rfl⟩ := d_map1 h
    rw [fe_L_whyNotExchange_0_82]; unfold fb_L_whyNotExchange_0_82
    rw [h, Option.bind_some]
    show (if e = 3 then some ((Sum.inl 1 : Int32 ⊕ Nat), s1) else some (Sum.inr e, s1)) = some (Sum.inl (dK 3 3 e), s1)
    unfold dK at he ⊢
    by_cases c1 : e = 3
    · rw [if_pos c1, if_pos c1]
    · rw [if_neg c1] at he ⊢
      rw [if_neg c1]
      exact absurd rfl (by rw [if_neg c1] at he; exact he)
theorem st_whyNotMove (a b : Int32) : dStep (f_L_whyNotMove_0_82 a b) (f_X12_whyNotMove a b) := by
  refine st_co (fc := fun s => (f_X11_whyNotMove a b s).map fun r => (r, s)) (a := 3) (b := 3) (fun _ _ _ _ _ hW hX _ => dQc_co hW hX (q_whyNotMove hW a b)) (fun s v s1 h => ?_) (fun s e s1 h he => ?_)
  · obtain ⟨h, rfl⟩ := d_map1 h
    rw [fe_L_whyNotMove_0_82]; unfold fb_L_whyNotMove_0_82
    rw [h, Option.bind_some]
    show (if v.toInt64.toInt32.toInt64 = v.toInt64 then some ((Sum.inl 0 : Int32 ⊕ Nat), ga_up s1 82 0 v.toInt64.toInt32) else none) = _
    rw [d_i64, if_pos rfl]
  · obtain ⟨h, rfl⟩ := d_map1 h
    rw [fe_L_whyNotMove_0_82]; unfold fb_L_whyNotMove_0_82
    rw [h, Option.bind_some]
    show (if e = 3 then some ((Sum.inl 1 : Int32 ⊕ Nat), s1) else some (Sum.inr e, s1)) = some (Sum.inl (dK 3 3 e), s1)
    unfold dK at he ⊢
    by_cases c1 : e = 3
    · rw [if_pos c1, if_pos c1]
    · rw [if_neg c1] at he ⊢
      rw [if_neg c1]
      exact absurd rfl (by rw [if_neg c1] at he; exact he)
theorem st_whyNotRoom (a b : Int32) : dStep (f_L_whyNotRoom_0_82 a b) (f_X12_whyNotRoom a b) := by
  refine st_co (fc := fun s => (f_X11_whyNotRoom a b s).map fun r => (r, s)) (a := 3) (b := 3) (fun _ _ _ _ _ hW hX _ => dQc_co hW hX (q_whyNotRoom hW a b)) (fun s v s1 h => ?_) (fun s e s1 h he => ?_)
  · obtain ⟨h, rfl⟩ := d_map1 h
    rw [fe_L_whyNotRoom_0_82]; unfold fb_L_whyNotRoom_0_82
    rw [h, Option.bind_some]
    show (if v.toInt64.toInt32.toInt64 = v.toInt64 then some ((Sum.inl 0 : Int32 ⊕ Nat), ga_up s1 82 0 v.toInt64.toInt32) else none) = _
    rw [d_i64, if_pos rfl]
  · obtain ⟨h, rfl⟩ := d_map1 h
    rw [fe_L_whyNotRoom_0_82]; unfold fb_L_whyNotRoom_0_82
    rw [h, Option.bind_some]
    show (if e = 3 then some ((Sum.inl 1 : Int32 ⊕ Nat), s1) else some (Sum.inr e, s1)) = some (Sum.inl (dK 3 3 e), s1)
    unfold dK at he ⊢
    by_cases c1 : e = 3
    · rw [if_pos c1, if_pos c1]
    · rw [if_neg c1] at he ⊢
      rw [if_neg c1]
      exact absurd rfl (by rw [if_neg c1] at he; exact he)
theorem st_candidates (a : Int32) : dStep (f_L_candidates_0_82 a) (f_X12_candidates a) := by
  refine st_co (fc := fun s => (f_X11_candidates a s).map fun r => (r, s)) (a := 3) (b := 3) (fun _ _ _ _ _ hW hX _ => dQc_co hW hX (q_candidates hW a)) (fun s v s1 h => ?_) (fun s e s1 h he => ?_)
  · obtain ⟨h, rfl⟩ := d_map1 h
    rw [fe_L_candidates_0_82]; unfold fb_L_candidates_0_82
    rw [h, Option.bind_some]
    show (if v.toInt64.toInt32.toInt64 = v.toInt64 then some ((Sum.inl 0 : Int32 ⊕ Nat), ga_up s1 82 0 v.toInt64.toInt32) else none) = _
    rw [d_i64, if_pos rfl]
  · obtain ⟨h, rfl⟩ := d_map1 h
    rw [fe_L_candidates_0_82]; unfold fb_L_candidates_0_82
    rw [h, Option.bind_some]
    show (if e = 3 then some ((Sum.inl 1 : Int32 ⊕ Nat), s1) else some (Sum.inr e, s1)) = some (Sum.inl (dK 3 3 e), s1)
    unfold dK at he ⊢
    by_cases c1 : e = 3
    · rw [if_pos c1, if_pos c1]
    · rw [if_neg c1] at he ⊢
      rw [if_neg c1]
      exact absurd rfl (by rw [if_neg c1] at he; exact he)
theorem st_partners (a : Int32) : dStep (f_L_partners_0_82 a) (f_X12_partners a) := by
  refine st_co (fc := fun s => (f_X11_partners a s).map fun r => (r, s)) (a := 3) (b := 3) (fun _ _ _ _ _ hW hX _ => dQc_co hW hX (q_partners hW a)) (fun s v s1 h => ?_) (fun s e s1 h he => ?_)
  · obtain ⟨h, rfl⟩ := d_map1 h
    rw [fe_L_partners_0_82]; unfold fb_L_partners_0_82
    rw [h, Option.bind_some]
    show (if v.toInt64.toInt32.toInt64 = v.toInt64 then some ((Sum.inl 0 : Int32 ⊕ Nat), ga_up s1 82 0 v.toInt64.toInt32) else none) = _
    rw [d_i64, if_pos rfl]
  · obtain ⟨h, rfl⟩ := d_map1 h
    rw [fe_L_partners_0_82]; unfold fb_L_partners_0_82
    rw [h, Option.bind_some]
    show (if e = 3 then some ((Sum.inl 1 : Int32 ⊕ Nat), s1) else some (Sum.inr e, s1)) = some (Sum.inl (dK 3 3 e), s1)
    unfold dK at he ⊢
    by_cases c1 : e = 3
    · rw [if_pos c1, if_pos c1]
    · rw [if_neg c1] at he ⊢
      rw [if_neg c1]
      exact absurd rfl (by rw [if_neg c1] at he; exact he)
theorem st_firstPartner (a : Int32) : dStep (f_L_firstPartner_0_82 a) (f_X12_firstPartner a) := by
  refine st_co (fc := fun s => (f_X11_firstPartner a s).map fun r => (r, s)) (a := 3) (b := 4) (fun _ _ _ _ _ hW hX _ => dQc_co hW hX (q_firstPartner hW a)) (fun s v s1 h => ?_) (fun s e s1 h he => ?_)
  · obtain ⟨h, rfl⟩ := d_map1 h
    rw [fe_L_firstPartner_0_82]; unfold fb_L_firstPartner_0_82
    rw [h, Option.bind_some]
    show (if v.toInt64.toInt32.toInt64 = v.toInt64 then some ((Sum.inl 0 : Int32 ⊕ Nat), ga_up s1 82 0 v.toInt64.toInt32) else none) = _
    rw [d_i64, if_pos rfl]
  · obtain ⟨h, rfl⟩ := d_map1 h
    rw [fe_L_firstPartner_0_82]; unfold fb_L_firstPartner_0_82
    rw [h, Option.bind_some]
    show (if e = 3 then some ((Sum.inl 1 : Int32 ⊕ Nat), s1) else if e = 4 then some (Sum.inl 2, s1) else some (Sum.inr e, s1)) = some (Sum.inl (dK 3 4 e), s1)
    unfold dK at he ⊢
    by_cases c1 : e = 3
    · rw [if_pos c1, if_pos c1]
    · rw [if_neg c1] at he ⊢
      rw [if_neg c1]
      by_cases c2 : e = 4
      · rw [if_pos c2, if_pos c2]
      · exact absurd rfl (by rw [if_neg c2] at he; exact he)
theorem st_slotsFor (a : Int32) : dStep (f_L_slotsFor_0_82 a) (f_X12_slotsFor a) := by
  refine st_co (fc := fun s => (f_X11_slotsFor a s).map fun r => (r, s)) (a := 3) (b := 3) (fun _ _ _ _ _ hW hX _ => dQc_co hW hX (q_slotsFor hW a)) (fun s v s1 h => ?_) (fun s e s1 h he => ?_)
  · obtain ⟨h, rfl⟩ := d_map1 h
    rw [fe_L_slotsFor_0_82]; unfold fb_L_slotsFor_0_82
    rw [h, Option.bind_some]
    show (if v.toInt64.toInt32.toInt64 = v.toInt64 then some ((Sum.inl 0 : Int32 ⊕ Nat), ga_up s1 82 0 v.toInt64.toInt32) else none) = _
    rw [d_i64, if_pos rfl]
  · obtain ⟨h, rfl⟩ := d_map1 h
    rw [fe_L_slotsFor_0_82]; unfold fb_L_slotsFor_0_82
    rw [h, Option.bind_some]
    show (if e = 3 then some ((Sum.inl 1 : Int32 ⊕ Nat), s1) else some (Sum.inr e, s1)) = some (Sum.inl (dK 3 3 e), s1)
    unfold dK at he ⊢
    by_cases c1 : e = 3
    · rw [if_pos c1, if_pos c1]
    · rw [if_neg c1] at he ⊢
      rw [if_neg c1]
      exact absurd rfl (by rw [if_neg c1] at he; exact he)
theorem st_count (a : Int32) : dStep (f_L_count_0_82 a) (f_X12_count a) := by
  refine st_co (fc := fun s => (f_X11_count a s).map fun r => (r, s)) (a := 2) (b := 2) (fun _ _ _ _ _ hW hX _ => dQc_co hW hX (q_count hW a)) (fun s v s1 h => ?_) (fun s e s1 h he => ?_)
  · obtain ⟨h, rfl⟩ := d_map1 h
    rw [fe_L_count_0_82]; unfold fb_L_count_0_82
    rw [h, Option.bind_some]
    show (if v.toInt64.toInt32.toInt64 = v.toInt64 then some ((Sum.inl 0 : Int32 ⊕ Nat), ga_up s1 82 0 v.toInt64.toInt32) else none) = _
    rw [d_i64, if_pos rfl]
  · obtain ⟨h, rfl⟩ := d_map1 h
    rw [fe_L_count_0_82]; unfold fb_L_count_0_82
    rw [h, Option.bind_some]
    show (if e = 2 then some ((Sum.inl 1 : Int32 ⊕ Nat), s1) else some (Sum.inr e, s1)) = some (Sum.inl (dK 2 2 e), s1)
    unfold dK at he ⊢
    by_cases c1 : e = 2
    · rw [if_pos c1, if_pos c1]
    · rw [if_neg c1] at he ⊢
      rw [if_neg c1]
      exact absurd rfl (by rw [if_neg c1] at he; exact he)
theorem st_lesson (a b : Int32) : dStep (f_L_lesson_0_82 a b) (f_X12_lesson a b) := by
  refine st_co (fc := fun s => (f_X11_lesson a b s).map fun r => (r, s)) (a := 3) (b := 2) (fun _ _ _ _ _ hW hX _ => dQc_co hW hX (q_lesson hW a b)) (fun s v s1 h => ?_) (fun s e s1 h he => ?_)
  · obtain ⟨h, rfl⟩ := d_map1 h
    rw [fe_L_lesson_0_82]; unfold fb_L_lesson_0_82
    rw [h, Option.bind_some]
    show (if v.toInt64.toInt32.toInt64 = v.toInt64 then some ((Sum.inl 0 : Int32 ⊕ Nat), ga_up s1 82 0 v.toInt64.toInt32) else none) = _
    rw [d_i64, if_pos rfl]
  · obtain ⟨h, rfl⟩ := d_map1 h
    rw [fe_L_lesson_0_82]; unfold fb_L_lesson_0_82
    rw [h, Option.bind_some]
    show (if e = 3 then some ((Sum.inl 1 : Int32 ⊕ Nat), s1) else if e = 2 then some (Sum.inl 2, s1) else some (Sum.inr e, s1)) = some (Sum.inl (dK 3 2 e), s1)
    unfold dK at he ⊢
    by_cases c1 : e = 3
    · rw [if_pos c1, if_pos c1]
    · rw [if_neg c1] at he ⊢
      rw [if_neg c1]
      by_cases c2 : e = 2
      · rw [if_pos c2, if_pos c2]
      · exact absurd rfl (by rw [if_neg c2] at he; exact he)
theorem st_teacher (a b : Int32) : dStep (f_L_teacher_0_82 a b) (f_X12_teacher a b) := by
  refine st_co (fc := fun s => (f_X11_teacher a b s).map fun r => (r, s)) (a := 3) (b := 2) (fun _ _ _ _ _ hW hX _ => dQc_co hW hX (q_teacher hW a b)) (fun s v s1 h => ?_) (fun s e s1 h he => ?_)
  · obtain ⟨h, rfl⟩ := d_map1 h
    rw [fe_L_teacher_0_82]; unfold fb_L_teacher_0_82
    rw [h, Option.bind_some]
    show (if v.toInt64.toInt32.toInt64 = v.toInt64 then some ((Sum.inl 0 : Int32 ⊕ Nat), ga_up s1 82 0 v.toInt64.toInt32) else none) = _
    rw [d_i64, if_pos rfl]
  · obtain ⟨h, rfl⟩ := d_map1 h
    rw [fe_L_teacher_0_82]; unfold fb_L_teacher_0_82
    rw [h, Option.bind_some]
    show (if e = 3 then some ((Sum.inl 1 : Int32 ⊕ Nat), s1) else if e = 2 then some (Sum.inl 2, s1) else some (Sum.inr e, s1)) = some (Sum.inl (dK 3 2 e), s1)
    unfold dK at he ⊢
    by_cases c1 : e = 3
    · rw [if_pos c1, if_pos c1]
    · rw [if_neg c1] at he ⊢
      rw [if_neg c1]
      by_cases c2 : e = 2
      · rw [if_pos c2, if_pos c2]
      · exact absurd rfl (by rw [if_neg c2] at he; exact he)
theorem st_room (a b : Int32) : dStep (f_L_room_0_82 a b) (f_X12_room a b) := by
  refine st_co (fc := fun s => (f_X11_room a b s).map fun r => (r, s)) (a := 3) (b := 2) (fun _ _ _ _ _ hW hX _ => dQc_co hW hX (q_room hW a b)) (fun s v s1 h => ?_) (fun s e s1 h he => ?_)
  · obtain ⟨h, rfl⟩ := d_map1 h
    rw [fe_L_room_0_82]; unfold fb_L_room_0_82
    rw [h, Option.bind_some]
    show (if v.toInt64.toInt32.toInt64 = v.toInt64 then some ((Sum.inl 0 : Int32 ⊕ Nat), ga_up s1 82 0 v.toInt64.toInt32) else none) = _
    rw [d_i64, if_pos rfl]
  · obtain ⟨h, rfl⟩ := d_map1 h
    rw [fe_L_room_0_82]; unfold fb_L_room_0_82
    rw [h, Option.bind_some]
    show (if e = 3 then some ((Sum.inl 1 : Int32 ⊕ Nat), s1) else if e = 2 then some (Sum.inl 2, s1) else some (Sum.inr e, s1)) = some (Sum.inl (dK 3 2 e), s1)
    unfold dK at he ⊢
    by_cases c1 : e = 3
    · rw [if_pos c1, if_pos c1]
    · rw [if_neg c1] at he ⊢
      rw [if_neg c1]
      by_cases c2 : e = 2
      · rw [if_pos c2, if_pos c2]
      · exact absurd rfl (by rw [if_neg c2] at he; exact he)
theorem st_subject (a b : Int32) : dStep (f_L_subject_0_82 a b) (f_X12_subject a b) := by
  refine st_co (fc := fun s => (f_X11_subject a b s).map fun r => (r, s)) (a := 3) (b := 2) (fun _ _ _ _ _ hW hX _ => dQc_co hW hX (q_subject hW a b)) (fun s v s1 h => ?_) (fun s e s1 h he => ?_)
  · obtain ⟨h, rfl⟩ := d_map1 h
    rw [fe_L_subject_0_82]; unfold fb_L_subject_0_82
    rw [h, Option.bind_some]
    show (if v.toInt64.toInt32.toInt64 = v.toInt64 then some ((Sum.inl 0 : Int32 ⊕ Nat), ga_up s1 82 0 v.toInt64.toInt32) else none) = _
    rw [d_i64, if_pos rfl]
  · obtain ⟨h, rfl⟩ := d_map1 h
    rw [fe_L_subject_0_82]; unfold fb_L_subject_0_82
    rw [h, Option.bind_some]
    show (if e = 3 then some ((Sum.inl 1 : Int32 ⊕ Nat), s1) else if e = 2 then some (Sum.inl 2, s1) else some (Sum.inr e, s1)) = some (Sum.inl (dK 3 2 e), s1)
    unfold dK at he ⊢
    by_cases c1 : e = 3
    · rw [if_pos c1, if_pos c1]
    · rw [if_neg c1] at he ⊢
      rw [if_neg c1]
      by_cases c2 : e = 2
      · rw [if_pos c2, if_pos c2]
      · exact absurd rfl (by rw [if_neg c2] at he; exact he)
theorem st_lessonOfClass (a b : Int32) : dStep (f_L_lessonOfClass_0_82 a b) (f_X12_lessonOfClass a b) := by
  refine st_co (fc := fun s => (f_X11_lessonOfClass a b s).map fun r => (r, s)) (a := 3) (b := 3) (fun _ _ _ _ _ hW hX _ => dQc_co hW hX (q_lessonOfClass hW a b)) (fun s v s1 h => ?_) (fun s e s1 h he => ?_)
  · obtain ⟨h, rfl⟩ := d_map1 h
    rw [fe_L_lessonOfClass_0_82]; unfold fb_L_lessonOfClass_0_82
    rw [h, Option.bind_some]
    show (if v.toInt64.toInt32.toInt64 = v.toInt64 then some ((Sum.inl 0 : Int32 ⊕ Nat), ga_up s1 82 0 v.toInt64.toInt32) else none) = _
    rw [d_i64, if_pos rfl]
  · obtain ⟨h, rfl⟩ := d_map1 h
    rw [fe_L_lessonOfClass_0_82]; unfold fb_L_lessonOfClass_0_82
    rw [h, Option.bind_some]
    show (if e = 3 then some ((Sum.inl 1 : Int32 ⊕ Nat), s1) else some (Sum.inr e, s1)) = some (Sum.inl (dK 3 3 e), s1)
    unfold dK at he ⊢
    by_cases c1 : e = 3
    · rw [if_pos c1, if_pos c1]
    · rw [if_neg c1] at he ⊢
      rw [if_neg c1]
      exact absurd rfl (by rw [if_neg c1] at he; exact he)
theorem st_lessonOfTeacher (a b : Int32) : dStep (f_L_lessonOfTeacher_0_82 a b) (f_X12_lessonOfTeacher a b) := by
  refine st_co (fc := fun s => (f_X11_lessonOfTeacher a b s).map fun r => (r, s)) (a := 3) (b := 3) (fun _ _ _ _ _ hW hX _ => dQc_co hW hX (q_lessonOfTeacher hW a b)) (fun s v s1 h => ?_) (fun s e s1 h he => ?_)
  · obtain ⟨h, rfl⟩ := d_map1 h
    rw [fe_L_lessonOfTeacher_0_82]; unfold fb_L_lessonOfTeacher_0_82
    rw [h, Option.bind_some]
    show (if v.toInt64.toInt32.toInt64 = v.toInt64 then some ((Sum.inl 0 : Int32 ⊕ Nat), ga_up s1 82 0 v.toInt64.toInt32) else none) = _
    rw [d_i64, if_pos rfl]
  · obtain ⟨h, rfl⟩ := d_map1 h
    rw [fe_L_lessonOfTeacher_0_82]; unfold fb_L_lessonOfTeacher_0_82
    rw [h, Option.bind_some]
    show (if e = 3 then some ((Sum.inl 1 : Int32 ⊕ Nat), s1) else some (Sum.inr e, s1)) = some (Sum.inl (dK 3 3 e), s1)
    unfold dK at he ⊢
    by_cases c1 : e = 3
    · rw [if_pos c1, if_pos c1]
    · rw [if_neg c1] at he ⊢
      rw [if_neg c1]
      exact absurd rfl (by rw [if_neg c1] at he; exact he)
theorem st_lessonInRoom (a b : Int32) : dStep (f_L_lessonInRoom_0_82 a b) (f_X12_lessonInRoom a b) := by
  refine st_co (fc := fun s => (f_X11_lessonInRoom a b s).map fun r => (r, s)) (a := 3) (b := 3) (fun _ _ _ _ _ hW hX _ => dQc_co hW hX (q_lessonInRoom hW a b)) (fun s v s1 h => ?_) (fun s e s1 h he => ?_)
  · obtain ⟨h, rfl⟩ := d_map1 h
    rw [fe_L_lessonInRoom_0_82]; unfold fb_L_lessonInRoom_0_82
    rw [h, Option.bind_some]
    show (if v.toInt64.toInt32.toInt64 = v.toInt64 then some ((Sum.inl 0 : Int32 ⊕ Nat), ga_up s1 82 0 v.toInt64.toInt32) else none) = _
    rw [d_i64, if_pos rfl]
  · obtain ⟨h, rfl⟩ := d_map1 h
    rw [fe_L_lessonInRoom_0_82]; unfold fb_L_lessonInRoom_0_82
    rw [h, Option.bind_some]
    show (if e = 3 then some ((Sum.inl 1 : Int32 ⊕ Nat), s1) else some (Sum.inr e, s1)) = some (Sum.inl (dK 3 3 e), s1)
    unfold dK at he ⊢
    by_cases c1 : e = 3
    · rw [if_pos c1, if_pos c1]
    · rw [if_neg c1] at he ⊢
      rw [if_neg c1]
      exact absurd rfl (by rw [if_neg c1] at he; exact he)
theorem st_freeTeachers (a : Int32) : dStep (f_L_freeTeachers_0_82 a) (f_X12_freeTeachers a) := by
  refine st_co (fc := fun s => (f_X11_freeTeachers a s).map fun r => (r, s)) (a := 3) (b := 3) (fun _ _ _ _ _ hW hX _ => dQc_co hW hX (q_freeTeachers hW a)) (fun s v s1 h => ?_) (fun s e s1 h he => ?_)
  · obtain ⟨h, rfl⟩ := d_map1 h
    rw [fe_L_freeTeachers_0_82]; unfold fb_L_freeTeachers_0_82
    rw [h, Option.bind_some]
    show (if v.toInt64.toInt32.toInt64 = v.toInt64 then some ((Sum.inl 0 : Int32 ⊕ Nat), ga_up s1 82 0 v.toInt64.toInt32) else none) = _
    rw [d_i64, if_pos rfl]
  · obtain ⟨h, rfl⟩ := d_map1 h
    rw [fe_L_freeTeachers_0_82]; unfold fb_L_freeTeachers_0_82
    rw [h, Option.bind_some]
    show (if e = 3 then some ((Sum.inl 1 : Int32 ⊕ Nat), s1) else some (Sum.inr e, s1)) = some (Sum.inl (dK 3 3 e), s1)
    unfold dK at he ⊢
    by_cases c1 : e = 3
    · rw [if_pos c1, if_pos c1]
    · rw [if_neg c1] at he ⊢
      rw [if_neg c1]
      exact absurd rfl (by rw [if_neg c1] at he; exact he)
theorem st_freeRooms (a b : Int32) : dStep (f_L_freeRooms_0_82 a b) (f_X12_freeRooms a b) := by
  refine st_co (fc := fun s => (f_X11_freeRooms a b s).map fun r => (r, s)) (a := 3) (b := 2) (fun _ _ _ _ _ hW hX _ => dQc_co hW hX (q_freeRooms hW a b)) (fun s v s1 h => ?_) (fun s e s1 h he => ?_)
  · obtain ⟨h, rfl⟩ := d_map1 h
    rw [fe_L_freeRooms_0_82]; unfold fb_L_freeRooms_0_82
    rw [h, Option.bind_some]
    show (if v.toInt64.toInt32.toInt64 = v.toInt64 then some ((Sum.inl 0 : Int32 ⊕ Nat), ga_up s1 82 0 v.toInt64.toInt32) else none) = _
    rw [d_i64, if_pos rfl]
  · obtain ⟨h, rfl⟩ := d_map1 h
    rw [fe_L_freeRooms_0_82]; unfold fb_L_freeRooms_0_82
    rw [h, Option.bind_some]
    show (if e = 3 then some ((Sum.inl 1 : Int32 ⊕ Nat), s1) else if e = 2 then some (Sum.inl 2, s1) else some (Sum.inr e, s1)) = some (Sum.inl (dK 3 2 e), s1)
    unfold dK at he ⊢
    by_cases c1 : e = 3
    · rw [if_pos c1, if_pos c1]
    · rw [if_neg c1] at he ⊢
      rw [if_neg c1]
      by_cases c2 : e = 2
      · rw [if_pos c2, if_pos c2]
      · exact absurd rfl (by rw [if_neg c2] at he; exact he)
theorem st_openLesson (a : Int32) : dStep (f_L_openLesson_0_82 a) (f_X12_openLesson a) := by
  refine st_co (fc := fun s => (f_X11_openLesson a s).map fun r => (r, s)) (a := 4) (b := 4) (fun _ _ _ _ _ hW hX _ => dQc_co hW hX (q_openLesson hW a)) (fun s v s1 h => ?_) (fun s e s1 h he => ?_)
  · obtain ⟨h, rfl⟩ := d_map1 h
    rw [fe_L_openLesson_0_82]; unfold fb_L_openLesson_0_82
    rw [h, Option.bind_some]
    show (if v.toInt64.toInt32.toInt64 = v.toInt64 then some ((Sum.inl 0 : Int32 ⊕ Nat), ga_up s1 82 0 v.toInt64.toInt32) else none) = _
    rw [d_i64, if_pos rfl]
  · obtain ⟨h, rfl⟩ := d_map1 h
    rw [fe_L_openLesson_0_82]; unfold fb_L_openLesson_0_82
    rw [h, Option.bind_some]
    show (if e = 4 then some ((Sum.inl 1 : Int32 ⊕ Nat), s1) else some (Sum.inr e, s1)) = some (Sum.inl (dK 4 4 e), s1)
    unfold dK at he ⊢
    by_cases c1 : e = 4
    · rw [if_pos c1, if_pos c1]
    · rw [if_neg c1] at he ⊢
      rw [if_neg c1]
      exact absurd rfl (by rw [if_neg c1] at he; exact he)
theorem st_difference (a : Int32) : dStep (f_L_difference_0_82 a) (f_X12_difference a) := by
  refine st_co (fc := fun s => (f_X11_difference a s).map fun r => (r, s)) (a := 4) (b := 4) (fun _ _ _ _ _ hW hX _ => dQc_co hW hX (q_difference hW a)) (fun s v s1 h => ?_) (fun s e s1 h he => ?_)
  · obtain ⟨h, rfl⟩ := d_map1 h
    rw [fe_L_difference_0_82]; unfold fb_L_difference_0_82
    rw [h, Option.bind_some]
    show (if v.toInt64.toInt32.toInt64 = v.toInt64 then some ((Sum.inl 0 : Int32 ⊕ Nat), ga_up s1 82 0 v.toInt64.toInt32) else none) = _
    rw [d_i64, if_pos rfl]
  · obtain ⟨h, rfl⟩ := d_map1 h
    rw [fe_L_difference_0_82]; unfold fb_L_difference_0_82
    rw [h, Option.bind_some]
    show (if e = 4 then some ((Sum.inl 1 : Int32 ⊕ Nat), s1) else some (Sum.inr e, s1)) = some (Sum.inl (dK 4 4 e), s1)
    unfold dK at he ⊢
    by_cases c1 : e = 4
    · rw [if_pos c1, if_pos c1]
    · rw [if_neg c1] at he ⊢
      rw [if_neg c1]
      exact absurd rfl (by rw [if_neg c1] at he; exact he)
theorem st_windows (a b : Int32) : dStep (f_L_windows_0_82 a b) (f_X12_windows a b) := by
  refine st_co (fc := fun s => (f_X11_windows a b s).map fun r => (r, s)) (a := 3) (b := 3) (fun _ _ _ _ _ hW hX _ => dQc_co hW hX (q_windows hW a b)) (fun s v s1 h => ?_) (fun s e s1 h he => ?_)
  · obtain ⟨h, rfl⟩ := d_map1 h
    rw [fe_L_windows_0_82]; unfold fb_L_windows_0_82
    rw [h, Option.bind_some]
    show (if v.toInt64.toInt32.toInt64 = v.toInt64 then some ((Sum.inl 0 : Int32 ⊕ Nat), ga_up s1 82 0 v.toInt64.toInt32) else none) = _
    rw [d_i64, if_pos rfl]
  · obtain ⟨h, rfl⟩ := d_map1 h
    rw [fe_L_windows_0_82]; unfold fb_L_windows_0_82
    rw [h, Option.bind_some]
    show (if e = 3 then some ((Sum.inl 1 : Int32 ⊕ Nat), s1) else some (Sum.inr e, s1)) = some (Sum.inl (dK 3 3 e), s1)
    unfold dK at he ⊢
    by_cases c1 : e = 3
    · rw [if_pos c1, if_pos c1]
    · rw [if_neg c1] at he ⊢
      rw [if_neg c1]
      exact absurd rfl (by rw [if_neg c1] at he; exact he)
theorem st_classWindows (a b : Int32) : dStep (f_L_classWindows_0_82 a b) (f_X12_classWindows a b) := by
  refine st_co (fc := fun s => (f_X11_classWindows a b s).map fun r => (r, s)) (a := 3) (b := 3) (fun _ _ _ _ _ hW hX _ => dQc_co hW hX (q_classWindows hW a b)) (fun s v s1 h => ?_) (fun s e s1 h he => ?_)
  · obtain ⟨h, rfl⟩ := d_map1 h
    rw [fe_L_classWindows_0_82]; unfold fb_L_classWindows_0_82
    rw [h, Option.bind_some]
    show (if v.toInt64.toInt32.toInt64 = v.toInt64 then some ((Sum.inl 0 : Int32 ⊕ Nat), ga_up s1 82 0 v.toInt64.toInt32) else none) = _
    rw [d_i64, if_pos rfl]
  · obtain ⟨h, rfl⟩ := d_map1 h
    rw [fe_L_classWindows_0_82]; unfold fb_L_classWindows_0_82
    rw [h, Option.bind_some]
    show (if e = 3 then some ((Sum.inl 1 : Int32 ⊕ Nat), s1) else some (Sum.inr e, s1)) = some (Sum.inl (dK 3 3 e), s1)
    unfold dK at he ⊢
    by_cases c1 : e = 3
    · rw [if_pos c1, if_pos c1]
    · rw [if_neg c1] at he ⊢
      rw [if_neg c1]
      exact absurd rfl (by rw [if_neg c1] at he; exact he)
theorem st_setAbsent (a b c : Int32) : dStep (f_L_setAbsent_0_82 a b c) (f_X12_setAbsent a b c) := by
  refine st_co (fc := (f_X11_setAbsent a b c)) (a := 3) (b := 3) (fun _ _ _ _ _ hW hX hm => o_setAbsent hW hX hm a b c) (fun s v s1 h => ?_) (fun s e s1 h he => ?_)
  · rw [fe_L_setAbsent_0_82]; unfold fb_L_setAbsent_0_82
    rw [h, Option.bind_some]
    show (if v.toInt64.toInt32.toInt64 = v.toInt64 then some ((Sum.inl 0 : Int32 ⊕ Nat), ga_up s1 82 0 v.toInt64.toInt32) else none) = _
    rw [d_i64, if_pos rfl]
  · rw [fe_L_setAbsent_0_82]; unfold fb_L_setAbsent_0_82
    rw [h, Option.bind_some]
    show (if e = 3 then some ((Sum.inl 1 : Int32 ⊕ Nat), s1) else some (Sum.inr e, s1)) = some (Sum.inl (dK 3 3 e), s1)
    unfold dK at he ⊢
    by_cases c1 : e = 3
    · rw [if_pos c1, if_pos c1]
    · rw [if_neg c1] at he ⊢
      rw [if_neg c1]
      exact absurd rfl (by rw [if_neg c1] at he; exact he)
theorem st_cover (a b : Int32) : dStep (f_L_cover_0_82 a b) (f_X12_cover a b) := by
  refine st_co (fc := (f_X11_cover a b)) (a := 3) (b := 1) (fun _ _ _ _ _ hW hX hm => o_cover hW hX hm a b) (fun s v s1 h => ?_) (fun s e s1 h he => ?_)
  · rw [fe_L_cover_0_82]; unfold fb_L_cover_0_82
    rw [h, Option.bind_some]
    show (if v.toInt64.toInt32.toInt64 = v.toInt64 then some ((Sum.inl 0 : Int32 ⊕ Nat), ga_up s1 82 0 v.toInt64.toInt32) else none) = _
    rw [d_i64, if_pos rfl]
  · rw [fe_L_cover_0_82]; unfold fb_L_cover_0_82
    rw [h, Option.bind_some]
    show (if e = 3 then some ((Sum.inl 1 : Int32 ⊕ Nat), s1) else if e = 1 then some (Sum.inl 2, s1) else some (Sum.inr e, s1)) = some (Sum.inl (dK 3 1 e), s1)
    unfold dK at he ⊢
    by_cases c1 : e = 3
    · rw [if_pos c1, if_pos c1]
    · rw [if_neg c1] at he ⊢
      rw [if_neg c1]
      by_cases c2 : e = 1
      · rw [if_pos c2, if_pos c2]
      · exact absurd rfl (by rw [if_neg c2] at he; exact he)
theorem st_supervise (a b : Int32) : dStep (f_L_supervise_0_82 a b) (f_X12_supervise a b) := by
  refine st_co (fc := (f_X11_supervise a b)) (a := 3) (b := 1) (fun _ _ _ _ _ hW hX hm => o_supervise hW hX hm a b) (fun s v s1 h => ?_) (fun s e s1 h he => ?_)
  · rw [fe_L_supervise_0_82]; unfold fb_L_supervise_0_82
    rw [h, Option.bind_some]
    show (if v.toInt64.toInt32.toInt64 = v.toInt64 then some ((Sum.inl 0 : Int32 ⊕ Nat), ga_up s1 82 0 v.toInt64.toInt32) else none) = _
    rw [d_i64, if_pos rfl]
  · rw [fe_L_supervise_0_82]; unfold fb_L_supervise_0_82
    rw [h, Option.bind_some]
    show (if e = 3 then some ((Sum.inl 1 : Int32 ⊕ Nat), s1) else if e = 1 then some (Sum.inl 2, s1) else some (Sum.inr e, s1)) = some (Sum.inl (dK 3 1 e), s1)
    unfold dK at he ⊢
    by_cases c1 : e = 3
    · rw [if_pos c1, if_pos c1]
    · rw [if_neg c1] at he ⊢
      rw [if_neg c1]
      by_cases c2 : e = 1
      · rw [if_pos c2, if_pos c2]
      · exact absurd rfl (by rw [if_neg c2] at he; exact he)
theorem st_repair (a : Int32) : dStep (f_L_repair_0_82 a) (f_X12_repair a) := by
  refine st_co (fc := (f_X11_repair a)) (a := 3) (b := 1) (fun _ _ _ _ _ hW hX hm => o_repair hW hX hm a) (fun s v s1 h => ?_) (fun s e s1 h he => ?_)
  · rw [fe_L_repair_0_82]; unfold fb_L_repair_0_82
    rw [h, Option.bind_some]
    show (if v.toInt64.toInt32.toInt64 = v.toInt64 then some ((Sum.inl 0 : Int32 ⊕ Nat), ga_up s1 82 0 v.toInt64.toInt32) else none) = _
    rw [d_i64, if_pos rfl]
  · rw [fe_L_repair_0_82]; unfold fb_L_repair_0_82
    rw [h, Option.bind_some]
    show (if e = 3 then some ((Sum.inl 1 : Int32 ⊕ Nat), s1) else if e = 1 then some (Sum.inl 2, s1) else some (Sum.inr e, s1)) = some (Sum.inl (dK 3 1 e), s1)
    unfold dK at he ⊢
    by_cases c1 : e = 3
    · rw [if_pos c1, if_pos c1]
    · rw [if_neg c1] at he ⊢
      rw [if_neg c1]
      by_cases c2 : e = 1
      · rw [if_pos c2, if_pos c2]
      · exact absurd rfl (by rw [if_neg c2] at he; exact he)
theorem st_exchange (a b : Int32) : dStep (f_L_exchange_0_82 a b) (f_X12_exchange a b) := by
  refine st_co (fc := (f_X11_exchange a b)) (a := 3) (b := 1) (fun _ _ _ _ _ hW hX hm => o_exchange hW hX hm a b) (fun s v s1 h => ?_) (fun s e s1 h he => ?_)
  · rw [fe_L_exchange_0_82]; unfold fb_L_exchange_0_82
    rw [h, Option.bind_some]
    show (if v.toInt64.toInt32.toInt64 = v.toInt64 then some ((Sum.inl 0 : Int32 ⊕ Nat), ga_up s1 82 0 v.toInt64.toInt32) else none) = _
    rw [d_i64, if_pos rfl]
  · rw [fe_L_exchange_0_82]; unfold fb_L_exchange_0_82
    rw [h, Option.bind_some]
    show (if e = 3 then some ((Sum.inl 1 : Int32 ⊕ Nat), s1) else if e = 1 then some (Sum.inl 2, s1) else some (Sum.inr e, s1)) = some (Sum.inl (dK 3 1 e), s1)
    unfold dK at he ⊢
    by_cases c1 : e = 3
    · rw [if_pos c1, if_pos c1]
    · rw [if_neg c1] at he ⊢
      rw [if_neg c1]
      by_cases c2 : e = 1
      · rw [if_pos c2, if_pos c2]
      · exact absurd rfl (by rw [if_neg c2] at he; exact he)
theorem st_move (a b : Int32) : dStep (f_L_move_0_82 a b) (f_X12_move a b) := by
  refine st_co (fc := (f_X11_move a b)) (a := 3) (b := 1) (fun _ _ _ _ _ hW hX hm => o_move hW hX hm a b) (fun s v s1 h => ?_) (fun s e s1 h he => ?_)
  · rw [fe_L_move_0_82]; unfold fb_L_move_0_82
    rw [h, Option.bind_some]
    show (if v.toInt64.toInt32.toInt64 = v.toInt64 then some ((Sum.inl 0 : Int32 ⊕ Nat), ga_up s1 82 0 v.toInt64.toInt32) else none) = _
    rw [d_i64, if_pos rfl]
  · rw [fe_L_move_0_82]; unfold fb_L_move_0_82
    rw [h, Option.bind_some]
    show (if e = 3 then some ((Sum.inl 1 : Int32 ⊕ Nat), s1) else if e = 1 then some (Sum.inl 2, s1) else some (Sum.inr e, s1)) = some (Sum.inl (dK 3 1 e), s1)
    unfold dK at he ⊢
    by_cases c1 : e = 3
    · rw [if_pos c1, if_pos c1]
    · rw [if_neg c1] at he ⊢
      rw [if_neg c1]
      by_cases c2 : e = 1
      · rw [if_pos c2, if_pos c2]
      · exact absurd rfl (by rw [if_neg c2] at he; exact he)
theorem st_setRoom (a b : Int32) : dStep (f_L_setRoom_0_82 a b) (f_X12_setRoom a b) := by
  refine st_co (fc := (f_X11_setRoom a b)) (a := 3) (b := 1) (fun _ _ _ _ _ hW hX hm => o_setRoom hW hX hm a b) (fun s v s1 h => ?_) (fun s e s1 h he => ?_)
  · rw [fe_L_setRoom_0_82]; unfold fb_L_setRoom_0_82
    rw [h, Option.bind_some]
    show (if v.toInt64.toInt32.toInt64 = v.toInt64 then some ((Sum.inl 0 : Int32 ⊕ Nat), ga_up s1 82 0 v.toInt64.toInt32) else none) = _
    rw [d_i64, if_pos rfl]
  · rw [fe_L_setRoom_0_82]; unfold fb_L_setRoom_0_82
    rw [h, Option.bind_some]
    show (if e = 3 then some ((Sum.inl 1 : Int32 ⊕ Nat), s1) else if e = 1 then some (Sum.inl 2, s1) else some (Sum.inr e, s1)) = some (Sum.inl (dK 3 1 e), s1)
    unfold dK at he ⊢
    by_cases c1 : e = 3
    · rw [if_pos c1, if_pos c1]
    · rw [if_neg c1] at he ⊢
      rw [if_neg c1]
      by_cases c2 : e = 1
      · rw [if_pos c2, if_pos c2]
      · exact absurd rfl (by rw [if_neg c2] at he; exact he)
theorem st_reopen (a : Int32) : dStep (f_L_reopen_0_82 a) (f_X12_reopen a) := by
  refine st_co (fc := (f_X11_reopen a)) (a := 3) (b := 1) (fun _ _ _ _ _ hW hX hm => o_reopen hW hX hm a) (fun s v s1 h => ?_) (fun s e s1 h he => ?_)
  · rw [fe_L_reopen_0_82]; unfold fb_L_reopen_0_82
    rw [h, Option.bind_some]
    show (if v.toInt64.toInt32.toInt64 = v.toInt64 then some ((Sum.inl 0 : Int32 ⊕ Nat), ga_up s1 82 0 v.toInt64.toInt32) else none) = _
    rw [d_i64, if_pos rfl]
  · rw [fe_L_reopen_0_82]; unfold fb_L_reopen_0_82
    rw [h, Option.bind_some]
    show (if e = 3 then some ((Sum.inl 1 : Int32 ⊕ Nat), s1) else if e = 1 then some (Sum.inl 2, s1) else some (Sum.inr e, s1)) = some (Sum.inl (dK 3 1 e), s1)
    unfold dK at he ⊢
    by_cases c1 : e = 3
    · rw [if_pos c1, if_pos c1]
    · rw [if_neg c1] at he ⊢
      rw [if_neg c1]
      by_cases c2 : e = 1
      · rw [if_pos c2, if_pos c2]
      · exact absurd rfl (by rw [if_neg c2] at he; exact he)
theorem st_undo : dStep f_L_undo_0_82 f_X12_undo := by
  refine st_co (fc := f_X11_undo) (a := 1) (b := 1) (fun _ _ _ _ _ hW hX hm => o_undo hW hX hm) (fun s v s1 h => ?_) (fun s e s1 h he => ?_)
  · rw [fe_L_undo_0_82]; unfold fb_L_undo_0_82
    rw [h, Option.bind_some]
    show (if v.toInt64.toInt32.toInt64 = v.toInt64 then some ((Sum.inl 0 : Int32 ⊕ Nat), ga_up s1 82 0 v.toInt64.toInt32) else none) = _
    rw [d_i64, if_pos rfl]
  · rw [fe_L_undo_0_82]; unfold fb_L_undo_0_82
    rw [h, Option.bind_some]
    show (if e = 1 then some ((Sum.inl 1 : Int32 ⊕ Nat), s1) else some (Sum.inr e, s1)) = some (Sum.inl (dK 1 1 e), s1)
    unfold dK at he ⊢
    by_cases c1 : e = 1
    · rw [if_pos c1, if_pos c1]
    · rw [if_neg c1] at he ⊢
      rw [if_neg c1]
      exact absurd rfl (by rw [if_neg c1] at he; exact he)
theorem st_chain (a : Int32) : dStep (f_L_chain_0_82 a) (f_X12_chain a) := by
  refine st_co (fc := (f_X11_chain a)) (a := 3) (b := 3) (fun _ _ _ _ _ hW hX hm => o_chain hW hX a) (fun s v s1 h => ?_) (fun s e s1 h he => ?_)
  · rw [fe_L_chain_0_82]; unfold fb_L_chain_0_82
    rw [h, Option.bind_some]
    show (if v.toInt64.toInt32.toInt64 = v.toInt64 then some ((Sum.inl 0 : Int32 ⊕ Nat), ga_up s1 82 0 v.toInt64.toInt32) else none) = _
    rw [d_i64, if_pos rfl]
  · rw [fe_L_chain_0_82]; unfold fb_L_chain_0_82
    rw [h, Option.bind_some]
    show (if e = 3 then some ((Sum.inl 1 : Int32 ⊕ Nat), s1) else some (Sum.inr e, s1)) = some (Sum.inl (dK 3 3 e), s1)
    unfold dK at he ⊢
    by_cases c1 : e = 3
    · rw [if_pos c1, if_pos c1]
    · rw [if_neg c1] at he ⊢
      rw [if_neg c1]
      exact absurd rfl (by rw [if_neg c1] at he; exact he)
theorem st_chainTeacher (a b : Int32) : dStep (f_L_chainTeacher_0_82 a b) (f_X12_chainTeacher a b) := by
  refine st_co (fc := (f_X11_chainTeacher a b)) (a := 3) (b := 4) (fun _ _ _ _ _ hW hX hm => o_chainTeacher hW hX a b) (fun s v s1 h => ?_) (fun s e s1 h he => ?_)
  · rw [fe_L_chainTeacher_0_82]; unfold fb_L_chainTeacher_0_82
    rw [h, Option.bind_some]
    show (if v.toInt64.toInt32.toInt64 = v.toInt64 then some ((Sum.inl 0 : Int32 ⊕ Nat), ga_up s1 82 0 v.toInt64.toInt32) else none) = _
    rw [d_i64, if_pos rfl]
  · rw [fe_L_chainTeacher_0_82]; unfold fb_L_chainTeacher_0_82
    rw [h, Option.bind_some]
    show (if e = 3 then some ((Sum.inl 1 : Int32 ⊕ Nat), s1) else if e = 4 then some (Sum.inl 2, s1) else some (Sum.inr e, s1)) = some (Sum.inl (dK 3 4 e), s1)
    unfold dK at he ⊢
    by_cases c1 : e = 3
    · rw [if_pos c1, if_pos c1]
    · rw [if_neg c1] at he ⊢
      rw [if_neg c1]
      by_cases c2 : e = 4
      · rw [if_pos c2, if_pos c2]
      · exact absurd rfl (by rw [if_neg c2] at he; exact he)
end D40
