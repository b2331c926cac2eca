section D36
/-! ===== repairing by a chain ===== -/
variable {N : Nat → Nat} {Q P : Nat → Nat → Int32} {s : ga_M}
def aAsg : (Nat → Nat → Int32) → List Nat → List Nat → Nat → Nat → Int32
  | P, j :: js, t :: ts => aAsg (pT P j (nI t) 0) js ts
  | P, _, _ => P
/-- the lessons that a chain fills, the first one j -/
def gJ (N : Nat → Nat) (P : Nat → Nat → Int32) (x : Int32) : Nat → List Nat → List Nat → Prop
  | _, [], _ => False
  | j, [t], js => js = [j] ∧ aAt N P 1 x (nI t) = -1
  | j, t :: u :: c, js => ∃ k js', js = j :: js' ∧ (k < N 6 ∧ P 0 k = x ∧ P 1 k = nI t ∧ P 3 k = 0) ∧ gJ N P x k (u :: c) js'
theorem gJ_ex {x : Int32} : ∀ (c : List Nat) (C : Nat → Bool), gW (N 3) (gE N Q P x) (gF N Q P x) C c → ∀ j, ∃ js, gJ N P x j c js := by
  intro c
  induction c with
  | nil => intro C h; exact h.elim
  | cons t c ih =>
    intro C h j
    cases c with
    | nil =>
      have := h.2.2
      unfold gF at this
      rw [Bool.and_eq_true, decide_eq_true_eq] at this
      exact ⟨[j], rfl, this.1⟩
    | cons u c =>
      have hE : gE N Q P x t u = true := (gW_iff.mp h.2.2).2.1
      unfold gE at hE
      rw [decide_eq_true_eq] at hE
      obtain ⟨k, hk, a1, a2, a3, _⟩ := hE
      obtain ⟨js, hjs⟩ := ih (gE N Q P x t) h.2.2 k
      exact ⟨j :: js, k, js, rfl, ⟨hk, a1, a2, a3⟩, hjs⟩
theorem pT_comm (P : Nat → Nat → Int32) {i j : Nat} (h : i ≠ j) (v w v2 w2 : Int32) : pT (pT P i v w) j v2 w2 = pT (pT P j v2 w2) i v w := by
  funext a k
  unfold pT pS
  by_cases e : k = i
  · subst e; simp [h]
  · by_cases e2 : k = j
    · subst e2; simp [e]
    · simp [e, e2]
theorem aAsg_comm {j : Nat} {v w : Int32} : ∀ (js ts : List Nat) (P : Nat → Nat → Int32), j ∉ js → aAsg (pT P j v w) js ts = pT (aAsg P js ts) j v w := by
  intro js
  induction js with
  | nil => intro ts P _; rfl
  | cons i js ih =>
    intro ts P h
    cases ts with
    | nil => rfl
    | cons t ts =>
      show aAsg (pT (pT P j v w) i (nI t) 0) js ts = pT (aAsg (pT P i (nI t) 0) js ts) j v w
      rw [pT_comm P (fun e => h (by rw [e]; exact List.mem_cons_self)), ih ts _ (fun e => h (List.mem_cons_of_mem _ e))]
theorem gJ_ok (hN : dWN N) (hP : dWP N P) {x : Int32} : ∀ (c : List Nat) (j : Nat) (js : List Nat), gJ N P x j c js → c.Nodup → (∀ t, t ∈ c → t < N 3) → j < N 6 → P 0 j = x → P 3 j = 0 → (∀ t, t ∈ c → P 1 j ≠ nI t) →
    dWP N (aAsg P js c) ∧ (∀ k, k ∉ js → aAsg P js c 1 k = P 1 k) ∧ (∀ k, k ∈ js → ∃ u, u ∈ c ∧ aAsg P js c 1 k = nI u) ∧ (∀ a k, a ≠ 1 → aAsg P js c a k = P a k) ∧ (∀ k, k ∈ js → k = j ∨ ∃ u, u ∈ c ∧ P 1 k = nI u) ∧ j ∈ js := by
  have hB := dWN_b hN
  intro c
  induction c with
  | nil => intro j js h; exact h.elim
  | cons t c ih =>
    intro j js h hnd hlt hj h0 h3 h1
    have ht : t < N 3 := hlt t List.mem_cons_self
    cases c with
    | nil =>
      obtain ⟨rfl, ha⟩ := h
      show dWP N (pT P j (nI t) 0) ∧ (∀ k, k ∉ [j] → pT P j (nI t) 0 1 k = P 1 k) ∧ (∀ k, k ∈ [j] → ∃ u, u ∈ [t] ∧ pT P j (nI t) 0 1 k = nI u) ∧ (∀ a k, a ≠ 1 → pT P j (nI t) 0 a k = P a k) ∧ (∀ k, k ∈ [j] → k = j ∨ ∃ u, u ∈ [t] ∧ P 1 k = nI u) ∧ j ∈ [j]
      refine ⟨dWP_teach hN hP ht (Or.inl rfl) (fun k hk _ e => aAt_none hN ha k hk (by rw [e, h0])), fun k hk => ?_, fun k hk => ?_, fun a k ha => ?_, fun k hk => Or.inl (List.mem_singleton.mp hk), List.mem_singleton.mpr rfl⟩
      · rw [pT_1, if_neg (fun e => hk (List.mem_singleton.mpr e))]
      · rw [pT_1, if_pos (List.mem_singleton.mp hk)]; exact ⟨t, List.mem_singleton.mpr rfl, rfl⟩
      · by_cases a3 : a = 3
        · subst a3; rw [pT_3]
          split
          · rename_i e; rw [e, h3]
          · rfl
        · exact pT_o ha a3 k
    | cons u c =>
      obtain ⟨k, js', rfl, ⟨hk, k0, k1, k3⟩, hJ⟩ := h
      have hnd2 := List.nodup_cons.mp hnd
      have tne : ∀ u', u' ∈ u :: c → nI t ≠ nI u' := fun u' hu' e => by
        rw [nI_eq (by omega) (by have := hlt u' (List.mem_cons_of_mem _ hu'); omega)] at e
        exact hnd2.1 (by rw [e]; exact hu')
      obtain ⟨r1, r2, r3, r4, r5, r6⟩ := ih k js' hJ hnd2.2 (fun u' hu' => hlt u' (List.mem_cons_of_mem _ hu')) hk k0 k3 (fun u' hu' => by rw [k1]; exact tne u' hu')
      have hjn : j ∉ js' := fun hm => by
        rcases r5 j hm with e | ⟨u', hu', e⟩
        · exact h1 t List.mem_cons_self (by rw [e]; exact k1)
        · exact h1 u' (List.mem_cons_of_mem _ hu') e
      have ea : aAsg P (j :: js') (t :: u :: c) = pT (aAsg P js' (u :: c)) j (nI t) 0 := aAsg_comm js' (u :: c) P hjn
      rw [ea]
      refine ⟨dWP_teach hN r1 ht (Or.inl rfl) (fun k' hk' _ e => ?_), fun k' hk' => ?_, fun k' hk' => ?_, fun a k' ha => ?_, fun k' hk' => ?_, List.mem_cons_self⟩
      · rw [r4 0 _ (by omega), r4 0 _ (by omega), h0] at e
        by_cases hm : k' ∈ js'
        · obtain ⟨u', hu', e2⟩ := r3 k' hm
          rw [e2]; exact fun q => tne u' hu' q.symm
        · rw [r2 k' hm]
          intro q
          have := dWP_t hP hk' hk (by rw [e, k0]) (by rw [q]; exact d_ne1 (by omega)) (by rw [q, k1])
          exact hm (by rw [this]; exact r6)
      · rw [pT_1, if_neg (fun e => hk' (by rw [e]; exact List.mem_cons_self)), r2 k' (fun e => hk' (List.mem_cons_of_mem _ e))]
      · rw [pT_1]
        by_cases e : k' = j
        · rw [if_pos e]; exact ⟨t, List.mem_cons_self, rfl⟩
        · rw [if_neg e]
          rcases List.mem_cons.mp hk' with e2 | e2
          · exact absurd e2 e
          · obtain ⟨u', hu', e3⟩ := r3 k' e2
            exact ⟨u', List.mem_cons_of_mem _ hu', e3⟩
      · by_cases a3 : a = 3
        · subst a3; rw [pT_3]
          split
          · rename_i e; rw [e, h3]
          · exact r4 3 k' ha
        · rw [pT_o ha a3 k', r4 a k' ha]
      · rcases List.mem_cons.mp hk' with e2 | e2
        · exact Or.inl e2
        · rcases r5 k' e2 with e3 | ⟨u', hu', e3⟩
          · exact Or.inr ⟨t, List.mem_cons_self, by rw [e3]; exact k1⟩
          · exact Or.inr ⟨u', List.mem_cons_of_mem _ hu', e3⟩
/-- the plan while a chain is laid -/
def gCur (P Pc : Nat → Nat → Int32) (dn D : List Nat) : Prop := (∀ a k, a ≠ 1 → Pc a k = P a k) ∧ (∀ k, k ∉ dn → Pc 1 k = P 1 k) ∧ ∀ k, k ∈ dn → ∃ u, u ∈ D ∧ u < 8 ∧ Pc 1 k = nI u
theorem gCur_at (hN : dWN N) (hP : dWP N P) {Pc : Nat → Nat → Int32} {dn D : List Nat} (h : gCur P Pc dn D) {x : Int32} {t k : Nat} (ht : t < N 3) (htD : t ∉ D) (hk : k < N 6) (k0 : P 0 k = x) (k1 : P 1 k = nI t) (hd : ∀ d, d ∈ dn → P 1 d ≠ nI t) : aAt N Pc 1 x (nI t) = nI k := by
  have hB := dWN_b hN
  have hkd : k ∉ dn := fun e => hd k e k1
  unfold aAt
  refine dFind_some (by omega) hk ?_ (fun j hj hp => ?_)
  · rw [h.1 0 k (by omega), h.2.1 k hkd, k0, k1]; simp
  · rw [Bool.and_eq_true, decide_eq_true_eq, decide_eq_true_eq, h.1 0 j (by omega)] at hp
    by_cases hm : j ∈ dn
    · obtain ⟨u, hu, hu8, e⟩ := h.2.2 j hm
      rw [e, nI_eq (by omega) (by omega)] at hp
      exact absurd (by rw [← hp.2]; exact hu) htD
    · rw [h.2.1 j hm] at hp
      exact dWP_t hP hj hk (by rw [hp.1, k0]) (by rw [hp.2]; exact d_ne1 (by omega)) (by rw [hp.2, k1])
theorem gCur_step {Pc : Nat → Nat → Int32} {dn D : List Nat} (h : gCur P Pc dn D) {j t : Nat} (ht : t < 8) (h3 : P 3 j = 0) : gCur P (pT Pc j (nI t) 0) (j :: dn) (t :: D) := by
  refine ⟨fun a k ha => ?_, fun k hk => ?_, fun k hk => ?_⟩
  · by_cases a3 : a = 3
    · subst a3; rw [pT_3]
      split
      · rename_i e; rw [e, h3]
      · exact h.1 3 k ha
    · rw [pT_o ha a3 k, h.1 a k ha]
  · rw [pT_1, if_neg (fun e => hk (by rw [e]; exact List.mem_cons_self)), h.2.1 k (fun e => hk (List.mem_cons_of_mem _ e))]
  · rw [pT_1]
    by_cases e : k = j
    · rw [if_pos e]; exact ⟨t, List.mem_cons_self, ht, rfl⟩
    · rw [if_neg e]
      rcases List.mem_cons.mp hk with e2 | e2
      · exact absurd e2 e
      · obtain ⟨u, hu, h8, e3⟩ := h.2.2 k e2
        exact ⟨u, List.mem_cons_of_mem _ hu, h8, e3⟩
theorem c_chain (hN : dWN N) (hP : dWP N P) {x L : Nat} (hL : L ≤ 4) : ∀ (c : List Nat) (j i n : Nat) (js : List Nat) (Pc : Nat → Nat → Int32) (dn D : List Nat) (s : ga_M), gJ N P (nI x) j c js → c.Nodup → (∀ t, t ∈ c → t < N 3 ∧ t ∉ D) → j < N 6 → P 3 j = 0 → (∀ t, t ∈ c → P 1 j ≠ nI t) → (∀ d, d ∈ dn → ∀ t, t ∈ c → P 1 d ≠ nI t) → gCur P Pc dn D → dC N Q Pc s →
    i + c.length = L → c.length < n → (∀ r, r < c.length → s 40 (i + r) = nI (c.getD r 0)) →
    ∃ s2, f_X2_repairByChain_h27 n (nI L) (nI x) (nI j) (nI i) s = some (1, s2) ∧ dFp s s2 ∧ dC N Q (aAsg Pc js c) s2 ∧ s2 32 = s 32 := by
  have hB := dWN_b hN
  intro c
  induction c with
  | nil => intro j i n js Pc dn D s h; exact h.elim
  | cons t c ih =>
    intro j i n js Pc dn D s h hnd hlt hj h3 h1 hd hcur hC hi hn hmem
    obtain ⟨n, rfl⟩ : ∃ m, n = m + 1 := ⟨n - 1, by omega⟩
    have hlen : (t :: c).length = c.length + 1 := rfl
    obtain ⟨ht, htD⟩ := hlt t List.mem_cons_self
    have e40 := hmem 0 (by omega)
    rw [Nat.add_zero] at e40
    have hC2 : dC N Q (pT Pc j (nI t) 0) (ga_up (ga_up s 24 j (nI t)) 28 j 0) := dC_pT (by omega) hC
    have hf2 : dFp s (ga_up (ga_up s 24 j (nI t)) 28 j 0) := dFp_trans (dFp_up _ _ _ (by omega) (by omega)) (dFp_up _ _ _ (by omega) (by omega))
    have step : f_X2_repairByChain_h27 (n + 1) (nI L) (nI x) (nI j) (nI i) s = f_X2_repairByChain_h27 n (nI L) (nI x) (aAt N Pc 1 (nI x) (nI t)) (nI (i + 1)) (ga_up (ga_up s 24 j (nI t)) 28 j 0) := by
      rw [f_X2_repairByChain_h27]
      dsimp only
      rw [if_neg (nI_ge (show i < L by omega) (by omega)), d_at (show i < 4 by omega) (by omega), e40]
      show (f_X3_lessonAt_23 (nI x) (nI t) s).bind _ = _
      rw [dc_lessonAt_23 hN hC, Option.bind_some, ve_X3_letTeach, d_p1]
      unfold vb_X3_letTeach
      dsimp only
      rw [show (nI ((t :: c).getD 0 0)) = nI t from rfl, d_pt (show j < 40 by omega) (by omega), d_pt (show j < 40 by omega) (by omega)]
    cases c with
    | nil =>
      obtain ⟨rfl, ha⟩ := h
      obtain ⟨n, rfl⟩ : ∃ m, n = m + 1 := ⟨n - 1, by simp at hn; omega⟩
      have hl1 : i + 1 = L := by simpa using hi
      refine ⟨_, ?_, hf2, hC2, by rw [d_up_ne (by decide), d_up_ne (by decide)]⟩
      rw [step, f_X2_repairByChain_h27, if_pos (nI_le (show L ≤ i + 1 by omega) (by omega)), if_neg (nI_nle (show 0 < L by omega) (by omega))]
    | cons u c =>
      obtain ⟨k, js', rfl, ⟨hk, k0, k1, k3⟩, hJ⟩ := h
      have hnd2 := List.nodup_cons.mp hnd
      have tne : ∀ u', u' ∈ u :: c → nI t ≠ nI u' := fun u' hu' e => by
        have := (hlt u' (List.mem_cons_of_mem _ hu')).1
        rw [nI_eq (by omega) (by omega)] at e
        exact hnd2.1 (by rw [e]; exact hu')
      have ek := gCur_at hN hP hcur ht htD hk k0 k1 (fun d hd' => hd d hd' t List.mem_cons_self)
      obtain ⟨s2, g1, g2, g3, g4⟩ := ih k (i + 1) n js' (pT Pc j (nI t) 0) (j :: dn) (t :: D) _ hJ hnd2.2 (fun u' hu' => ⟨(hlt u' (List.mem_cons_of_mem _ hu')).1, fun e => by
          rcases List.mem_cons.mp e with e | e
          · exact hnd2.1 (by rw [← e]; exact hu')
          · exact (hlt u' (List.mem_cons_of_mem _ hu')).2 e⟩) hk k3 (fun u' hu' => by rw [k1]; exact tne u' hu') (fun d hd' u' hu' => by
          rcases List.mem_cons.mp hd' with e | e
          · rw [e]; exact h1 u' (List.mem_cons_of_mem _ hu')
          · exact hd d e u' (List.mem_cons_of_mem _ hu')) (gCur_step hcur (by omega) h3) hC2 (by omega) (by omega) (fun r hr => by
          rw [d_up_ne (by decide), d_up_ne (by decide)]
          have := hmem (r + 1) (by omega)
          rw [show i + 1 + r = i + (r + 1) by omega, this]; rfl)
      refine ⟨s2, by rw [step, ek]; exact g1, dFp_trans hf2 g2, g3, by rw [g4, d_up_ne (by decide), d_up_ne (by decide)]⟩
theorem pT_pS {j : Nat} {v : Int32} (h : P 3 j = 0) : pT P j v 0 = pS P 1 j v := by
  funext a k
  unfold pT pS
  by_cases e : a = 3 ∧ k = j
  · rw [if_pos e, if_neg (by omega), e.1, e.2, h]
  · rw [if_neg e]
end D36
