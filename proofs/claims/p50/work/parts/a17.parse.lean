section D47
/-! ===== the school's text: both read it alike ===== -/
variable {T : Nat → Nat} {L : Nat} {N : Nat → Nat} {Q : Nat → Nat → Int32} {s t : ga_M}
def pFc (s0 s : ga_M) : Prop := ∀ c, c ≠ 45 → (c ≤ 48 ∨ 68 ≤ c) → s c = s0 c
def pFm (t0 t : ga_M) : Prop := (∀ c, c ≠ 72 → c ≠ 74 → t c = t0 c) ∧ ∀ f, f ≠ 13 → f ≠ 14 → f ≠ 16 → f ≠ 17 → t 72 f = t0 72 f
theorem pFc_refl (s : ga_M) : pFc s s := fun _ _ _ => rfl
theorem pFm_refl (s : ga_M) : pFm s s := ⟨fun _ _ _ => rfl, fun _ _ _ _ _ => rfl⟩
theorem pFc_trans {s s1 s2 : ga_M} (h : pFc s s1) (h2 : pFc s1 s2) : pFc s s2 := fun c a b => (h2 c a b).trans (h c a b)
theorem pFm_trans {s s1 s2 : ga_M} (h : pFm s s1) (h2 : pFm s1 s2) : pFm s s2 := ⟨fun c a b => (h2.1 c a b).trans (h.1 c a b), fun f a b c d => (h2.2 f a b c d).trans (h.2 f a b c d)⟩
theorem pFc_t {s s1 : ga_M} (h : tF s s1) : pFc s s1 := fun c a _ => h c a
theorem pFm_m {s s1 : ga_M} (h : mF s s1) : pFm s s1 := ⟨fun c a _ => h.1 c a, h.2⟩
theorem pFm_up (t : ga_M) (k : Nat) (v : Int32) : pFm t (ga_up t 74 k v) := ⟨fun c _ a => d_up_ne a, fun f _ _ _ _ => by rw [d_up_ne (by decide)]⟩
theorem pFc_up (s : ga_M) (k : Nat) (v : Int32) : pFc s (ga_up s 49 k v) := fun c _ a => d_up_ne (by omega)
def pOk (T : Nat → Nat) (L st : Nat) (N : Nat → Nat) (Q : Nat → Nat → Int32) (s t : ga_M) : Prop := tOkay T L st s t ∧ dC2 49 N Q s ∧ dM2 74 N Q t
theorem tOkay_c {st : Nat} {s2 t2 : ga_M} (e1 : s2 45 = s 45) (e2 : s2 47 = s 47) (e3 : t2 72 = t 72) (e4 : t2 80 = t 80) (h : tOkay T L st s t) : tOkay T L st s2 t2 := by
  unfold tOkay cK mK cX mX at *
  rw [e1, e2, e3, e4]; exact h
theorem dC2_t {s2 : ga_M} (f : tF s s2) (h : dC2 49 N Q s) : dC2 49 N Q s2 := ⟨fun k hk => by rw [f 49 (by omega)]; exact h.1 k hk, fun a ha ha9 k hk => by rw [f _ (by omega)]; exact h.2 a ha ha9 k hk⟩
theorem dM2_m {t2 : ga_M} (f : mF t t2) (h : dM2 74 N Q t) : dM2 74 N Q t2 := ⟨fun k hk => by rw [f.1 74 (by omega)]; exact h.1 k hk, fun a ha ha9 k hk => by rw [f.1 74 (by omega)]; exact h.2 a ha ha9 k hk⟩
theorem tBad_t {t2 : ga_M} (e : t2 72 = t 72) (h : tBad s t) : tBad s t2 := by
  unfold tBad mZ at *; rw [e]; exact h
theorem p_set {st i : Nat} (hi : i = 0 ∨ i = 1 ∨ i = 5) (v : Nat) (h : pOk T L st N Q s t) : pOk T L st (nU N i v) Q (ga_up s 49 i (nI v)) (ga_up t 74 i (nI v)) := by
  have hg : ∀ a, 1 ≤ a → a ≤ 9 → gov a ≠ i := fun a h1 h9 => by
    have := gov_no a (by omega) h1
    rcases hi with rfl | rfl | rfl
    · exact this.1
    · exact this.2.1
    · exact this.2.2
  exact ⟨tOkay_c (d_up_ne (by decide)) (d_up_ne (by decide)) (d_up_ne (by decide)) (d_up_ne (by decide)) h.1, dC2_cnt (by omega) h.2.1 (Or.inr (Or.inr hg)), dM2_cnt (by omega) h.2.2 (Or.inr (Or.inr hg))⟩
def pR (T : Nat → Nat) (L : Nat) (s0 t0 : ga_M) (c : Option (Int32 × ga_M)) (m : Option ga_M) (G : (Nat → Nat) → (Nat → Nat → Int32) → Prop) : Prop :=
  (∃ st N Q s t, c = some (1, s) ∧ m = some t ∧ pOk T L st N Q s t ∧ pFc s0 s ∧ pFm t0 t ∧ G N Q) ∨ ∃ s t, c = some (0, s) ∧ m = some t ∧ tBad s t ∧ pFc s0 s ∧ pFm t0 t
theorem w_grid : wOk 1000 [103, 114, 105, 100] := ⟨rfl, by decide, by decide, by decide⟩
theorem w_subject : wOk 1001 [115, 117, 98, 106, 101, 99, 116] := ⟨rfl, by decide, by decide, by decide⟩
theorem w_teacher : wOk 1002 [116, 101, 97, 99, 104, 101, 114] := ⟨rfl, by decide, by decide, by decide⟩
theorem w_room : wOk 1003 [114, 111, 111, 109] := ⟨rfl, by decide, by decide, by decide⟩
theorem w_classes : wOk 1004 [99, 108, 97, 115, 115, 101, 115] := ⟨rfl, by decide, by decide, by decide⟩
theorem w_lesson : wOk 1005 [108, 101, 115, 115, 111, 110] := ⟨rfl, by decide, by decide, by decide⟩
theorem z_up {k : Nat} {v : Int32} (h : mZ t) : mZ (ga_up t 74 k v) := by
  unfold mZ at *; rw [d_up_ne (by decide)]; exact h
end D47
