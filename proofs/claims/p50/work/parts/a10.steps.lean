section D40
/-! ===== steps of the law ===== -/
variable {N : Nat → Nat} {Q P : Nat → Nat → Int32} {s : ga_M} {m : Nat} {H : Nat → Nat → Nat → Int32}
def dStep0 (fC fM : ga_M → Option (Int32 × ga_M)) : Prop := ∀ s, dIs s → ∃ (v : Int32) (s1 s2 : ga_M), fC s = some (v, s1) ∧ fM s1 = some (v, s2) ∧ dIs s2
theorem dI_m (h : dI N Q P m H s) : m ≤ 10 := by
  obtain ⟨_, _, _, _, ⟨o, hr⟩, _⟩ := h
  exact hr.1
theorem d_upc {s s1 : ga_M} {c k : Nat} {v : Int32} (h : dFc s s1) (hc : 45 ≤ c) : dFc (ga_up s c k v) (ga_up s1 c k v) := by
  intro a ha
  by_cases e : a = c
  · subst e; unfold ga_up; rw [if_pos rfl, if_pos rfl, h a ha]
  · rw [d_up_ne e, d_up_ne e, h a ha]
theorem dQc_co {fq : ga_M → Option (Int32 ⊕ Nat)} {fm : ga_M → Option (Int32 × ga_M)} {cd : Nat → Int32} (hW : dW N Q P) (hX : dWH N m H) (h : dQc N Q P fq fm cd) : dCo N Q P m H (fun s => (fq s).map fun r => (r, s)) fm cd := by
  rcases h with ⟨v, h1, h2⟩ | ⟨e, h0, h1, h2⟩
  · exact ⟨P, m, H, .inl v, hW, hX, fun s h hh => ⟨s, by show Option.map _ (fq s) = _; rw [h1 s h]; rfl, dFc_refl s, h, hh⟩, fun s h hh => ⟨v, _, h2 s h, dFm_726 s 0, dM_726 h 0, dMH_726 hh 0, rfl, by rw [d_up_eq]⟩⟩
  · refine ⟨P, m, H, .inr e, hW, hX, fun s h hh => ⟨s, by show Option.map _ (fq s) = _; rw [h1 s h]; rfl, dFc_refl s, h, hh⟩, fun s h hh => ?_⟩
    obtain ⟨b, e2⟩ := h2 s h
    exact ⟨b, _, e2, dFm_726 s _, dM_726 h _, dMH_726 hh _, h0, by rw [d_up_eq]⟩
theorem d_map1 {fq : ga_M → Option (Int32 ⊕ Nat)} {r : Int32 ⊕ Nat} {s s1 : ga_M} (h : (fq s).map (fun r => (r, s)) = some (r, s1)) : fq s = some r ∧ s1 = s := by
  cases e : fq s with
  | none => rw [e] at h; cases h
  | some x =>
    rw [e] at h
    have := Option.some.inj h
    exact ⟨by rw [(Prod.mk.inj this).1], (Prod.mk.inj this).2.symm⟩
theorem st_z {fc fM : ga_M → Option (Int32 × ga_M)} (hco : ∀ N Q P m H, dW N Q P → dWH N m H → m ≤ 10 → dCz N Q P m H fc fM) : dStep0 fc fM := by
  intro s ⟨N, Q, P, m, H, h⟩
  obtain ⟨P2, m2, H2, v, hW2, hX2, hc, hm⟩ := hco N Q P m H h.1 h.2.1 (dI_m h)
  obtain ⟨s1, e1, f1, c1, c2⟩ := hc s h.2.2.1 h.2.2.2.2.1
  obtain ⟨s2, g1, g2, g3, g4⟩ := hm s1 (dM_cong (f1 73 (by omega)) (f1 75 (by omega)) h.2.2.2.1) (dMH_cong (by rw [f1 72 (by omega)]) (f1 77 (by omega)) h.2.2.2.2.2.1)
  exact ⟨v, s1, s2, e1, g1, N, Q, P2, m2, H2, dI_join h hW2 hX2 f1 c1 c2 g2 g3 g4⟩
theorem dI_726 (h : dI N Q P m H s) (x : Int32) : dI N Q P m H (ga_up s 72 6 x) := dI_join h h.1 h.2.1 (dFc_refl s) h.2.2.1 h.2.2.2.2.1 (dFm_726 s x) (dM_726 h.2.2.2.1 x) (dMH_726 h.2.2.2.2.2.1 x)
theorem dIs_726 (h : dIs s) (x : Int32) : dIs (ga_up s 72 6 x) := by
  obtain ⟨N, Q, P, m, H, h⟩ := h
  exact ⟨N, Q, P, m, H, dI_726 h x⟩
end D40
