section D36
/-! ===== repairing by a chain ===== -/
variable {N : Nat → Nat} {Q P : Nat → Nat → Int32} {s : ga_M}
def aAsg : (Nat → Nat → Int32) → List Nat → List Nat → Nat → Nat → Int32
  | P, j :: js, t :: ts => aAsg (pT P j (nI t) 0) js ts
  | P, _, _ => P
/-- the lessons that a chain fills, the first one j -/
def gJ (N : Nat → Nat) (P : Nat → Nat → Int32) (x : Int32) : Nat → List Nat → List Nat → Prop
  | _, [], _ => False
  | j, [t], js => js = [j] ∧ aAt N P 1 x (nI t) = -1
  | j, t :: u :: c, js => ∃ k js', js = j :: js' ∧ (k < N 6 ∧ P 0 k = x ∧ P 1 k = nI t ∧ P 3 k = 0) ∧ gJ N P x k (u :: c) js'
theorem gJ_ex {x : Int32} : ∀ (c : List Nat) (C : Nat → Bool), gW (N 3) (gE N Q P x) (gF N Q P x) C c → ∀ j, ∃ js, gJ N P x j c js := by
  intro c
  induction c with
  | nil => intro C h; exact h.elim
  | cons t c ih =>
    intro C h j
    cases c with
    | nil =>
      have := h.2.2
      unfold gF at this
      rw [Bool.and_eq_true, decide_eq_true_eq] at this
      exact ⟨[j], rfl, this.1⟩
    | cons u c =>
      have hE : gE N Q P x t u = true := (gW_iff.mp h.2.2).2.1
      unfold gE at hE
      rw [decide_eq_true_eq] at hE
      obtain ⟨k, hk, a1, a2, a3, _⟩ := hE
      obtain ⟨js, hjs⟩ := ih (gE N Q P x t) h.2.2 k
      exact ⟨j :: js, k, js, rfl, ⟨hk, a1, a2, a3⟩, hjs⟩
theorem pT_comm (P : Nat → Nat → Int32) {i j : Nat} (h : i ≠ j) (v w v2 w2 : Int32) : pT (pT P i v w) j v2 w2 = pT (pT P j v2 w2) i v w := by
  funext a k
  unfold pT pS
  by_cases e : k = i
  · subst e; simp [h]
  · by_cases e2 : k = j
    · subst e2; simp [e]
    · simp [e, e2]
theorem aAsg_comm {j : Nat} {v w : Int32} : ∀ (js ts : List Nat) (P : Nat → Nat → Int32), j ∉ js → aAsg (pT P j v w) js ts = pT (aAsg P js ts) j v w := by
  intro js
  induction js with
  | nil => intro ts P _; rfl
  | cons i js ih =>
    intro ts P h
    cases ts with
    | nil => rfl
    | cons t ts =>
      show aAsg (pT (pT P j v w) i (nI t) 0) js ts = pT (aAsg (pT P i (nI t) 0) js ts) j v w
      rw [pT_comm P (fun e => h (by rw [e]; exact List.mem_cons_self)), ih ts _ (fun e => h (List.mem_cons_of_mem _ e))]
theorem gJ_ok (hN : dWN N) (hP : dWP N P) {x : Int32} : ∀ (c : List Nat) (j : Nat) (js : List Nat), gJ N P x j c js → c.Nodup → (∀ t, t ∈ c → t < N 3) → j < N 6 → P 0 j = x → P 3 j = 0 → (∀ t, t ∈ c → P 1 j ≠ nI t) →
    dWP N (aAsg P js c) ∧ (∀ k, k ∉ js → aAsg P js c 1 k = P 1 k) ∧ (∀ k, k ∈ js → ∃ u, u ∈ c ∧ aAsg P js c 1 k = nI u) ∧ (∀ a k, a ≠ 1 → aAsg P js c a k = P a k) ∧ (∀ k, k ∈ js → k = j ∨ ∃ u, u ∈ c ∧ P 1 k = nI u) ∧ j ∈ js := by
  have hB := dWN_b hN
  intro c
  induction c with
  | nil => intro j js h; exact h.elim
  | cons t c ih =>
    intro j js h hnd hlt hj h0 h3 h1
    have ht : t < N 3 := hlt t List.mem_cons_self
    cases c with
    | nil =>
      obtain ⟨rfl, ha⟩ := h
      show dWP N (pT P j (nI t) 0) ∧ (∀ k, k ∉ [j] → pT P j (nI t) 0 1 k = P 1 k) ∧ (∀ k, k ∈ [j] → ∃ u, u ∈ [t] ∧ pT P j (nI t) 0 1 k = nI u) ∧ (∀ a k, a ≠ 1 → pT P j (nI t) 0 a k = P a k) ∧ (∀ k, k ∈ [j] → k = j ∨ ∃ u, u ∈ [t] ∧ P 1 k = nI u) ∧ j ∈ [j]
      refine ⟨dWP_teach hN hP ht (Or.inl rfl) (fun k hk _ e => aAt_none hN ha k hk (by rw [e, h0])), fun k hk => ?_, fun k hk => ?_, fun a k ha => ?_, fun k hk => Or.inl (List.mem_singleton.mp hk), List.mem_singleton.mpr rfl⟩
      · rw [pT_1, if_neg (fun e => hk (List.mem_singleton.mpr e))]
      · rw [pT_1, if_pos (List.mem_singleton.mp hk)]; exact ⟨t, List.mem_singleton.mpr rfl, rfl⟩
      · by_cases a3 : a = 3
        · subst a3; rw [pT_3]
          split
          · rename_i e; rw [e, h3]
          · rfl
        · exact pT_o ha a3 k
    | cons u c =>
      obtain ⟨k, js', rfl, ⟨hk, k0, k1, k3⟩, hJ⟩ := h
      have hnd2 := List.nodup_cons.mp hnd
      have tne : ∀ u', u' ∈ u :: c → nI t ≠ nI u' := fun u' hu' e => by
        rw [nI_eq (by omega) (by have := hlt u' (List.mem_cons_of_mem _ hu'); omega)] at e
        exact hnd2.1 (by rw [e]; exact hu')
      obtain ⟨r1, r2, r3, r4, r5, r6⟩ := ih k js' hJ hnd2.2 (fun u' hu' => hlt u' (List.mem_cons_of_mem _ hu')) hk k0 k3 (fun u' hu' => by rw [k1]; exact tne u' hu')
      have hjn : j ∉ js' := fun hm => by
        rcases r5 j hm with e | ⟨u', hu', e⟩
        · exact h1 t List.mem_cons_self (by rw [e]; exact k1)
        · exact h1 u' (List.mem_cons_of_mem _ hu') e
      have ea : aAsg P (j :: js') (t :: u :: c) = pT (aAsg P js' (u :: c)) j (nI t) 0 := aAsg_comm js' (u :: c) P hjn
      rw [ea]
      refine ⟨dWP_teach hN r1 ht (Or.inl rfl) (fun k' hk' _ e => ?_), fun k' hk' => ?_, fun k' hk' => ?_, fun a k' ha => ?_, fun k' hk' => ?_, List.mem_cons_self⟩
      · rw [r4 0 _ (by omega), r4 0 _ (by omega), h0] at e
        by_cases hm : k' ∈ js'
        · obtain ⟨u', hu', e2⟩ := r3 k' hm
          rw [e2]; exact fun q => tne u' hu' q.symm
        · rw [r2 k' hm]
          intro q
          have := dWP_t hP hk' hk (by rw [e, k0]) (by rw [q]; exact d_ne1 (by omega)) (by rw [q, k1])
          exact hm (by rw [this]; exact r6)
      · rw [pT_1, if_neg (fun e => hk' (by rw [e]; exact List.mem_cons_self)), r2 k' (fun e => hk' (List.mem_cons_of_mem _ e))]
      · rw [pT_1]
        by_cases e : k' = j
        · rw [if_pos e]; exact ⟨t, List.mem_cons_self, rfl⟩
        · rw [if_neg e]
          rcases List.mem_cons.mp hk' with e2 | e2
          · exact absurd e2 e
          · obtain ⟨u', hu', e3⟩ := r3 k' e2
            exact ⟨u', List.mem_cons_of_mem _ hu', e3⟩
      · by_cases a3 : a = 3
        · subst a3; rw [pT_3]
          split
          · rename_i e; rw [e, h3]
          · exact r4 3 k' ha
        · rw [pT_o ha a3 k', r4 a k' ha]
      · rcases List.mem_cons.mp hk' with e2 | e2
        · exact Or.inl e2
        · rcases r5 k' e2 with e3 | ⟨u', hu', e3⟩
          · exact Or.inr ⟨t, List.mem_cons_self, by rw [e3]; exact k1⟩
          · exact Or.inr ⟨u', List.mem_cons_of_mem _ hu', e3⟩
/-- the plan while a chain is laid -/
def gCur (P Pc : Nat → Nat → Int32) (dn D : List Nat) : Prop := (∀ a k, a ≠ 1 → Pc a k = P a k) ∧ (∀ k, k ∉ dn → Pc 1 k = P 1 k) ∧ ∀ k, k ∈ dn → ∃ u, u ∈ D ∧ u < 8 ∧ Pc 1 k = nI u
theorem gCur_at (hN : dWN N) (hP : dWP N P) {Pc : Nat → Nat → Int32} {dn D : List Nat} (h : gCur P Pc dn D) {x : Int32} {t k : Nat} (ht : t < N 3) (htD : t ∉ D) (hk : k < N 6) (k0 : P 0 k = x) (k1 : P 1 k = nI t) (hd : ∀ d, d ∈ dn → P 1 d ≠ nI t) : aAt N Pc 1 x (nI t) = nI k := by
  have hB := dWN_b hN
  have hkd : k ∉ dn := fun e => hd k e k1
  unfold aAt
  refine dFind_some (by omega) hk ?_ (fun j hj hp => ?_)
  · rw [h.1 0 k (by omega), h.2.1 k hkd, k0, k1]; simp
  · rw [Bool.and_eq_true, decide_eq_true_eq, decide_eq_true_eq, h.1 0 j (by omega)] at hp
    by_cases hm : j ∈ dn
    · obtain ⟨u, hu, hu8, e⟩ := h.2.2 j hm
      rw [e, nI_eq (by omega) (by omega)] at hp
      exact absurd (by rw [← hp.2]; exact hu) htD
    · rw [h.2.1 j hm] at hp
      exact dWP_t hP hj hk (by rw [hp.1, k0]) (by rw [hp.2]; exact d_ne1 (by omega)) (by rw [hp.2, k1])
theorem gCur_step {Pc : Nat → Nat → Int32} {dn D : List Nat} (h : gCur P Pc dn D) {j t : Nat} (ht : t < 8) (h3 : P 3 j = 0) : gCur P (pT Pc j (nI t) 0) (j :: dn) (t :: D) := by
  refine ⟨fun a k ha => ?_, fun k hk => ?_, fun k hk => ?_⟩
  · by_cases a3 : a = 3
    · subst a3; rw [pT_3]
      split
      · rename_i e; rw [e, h3]
      · exact h.1 3 k ha
    · rw [pT_o ha a3 k, h.1 a k ha]
  · rw [pT_1, if_neg (fun e => hk (by rw [e]; exact List.mem_cons_self)), h.2.1 k (fun e => hk (List.mem_cons_of_mem _ e))]
  · rw [pT_1]
    by_cases e : k = j
    · rw [if_pos e]; exact ⟨t, List.mem_cons_self, ht, rfl⟩
    · rw [if_neg e]
      rcases List.mem_cons.mp hk with e2 | e2
      · exact absurd e2 e
      · obtain ⟨u, hu, h8, e3⟩ := h.2.2 k e2
        exact ⟨u, List.mem_cons_of_mem _ hu, h8, e3⟩
theorem c_chain (hN : dWN N) (hP : dWP N P) {x L : Nat} (hL : L ≤ 4) : ∀ (c : List Nat) (j i n : Nat) (js : List Nat) (Pc : Nat → Nat → Int32) (dn D : List Nat) (s : ga_M), gJ N P (nI x) j c js → c.Nodup → (∀ t, t ∈ c → t < N 3 ∧ t ∉ D) → j < N 6 → P 3 j = 0 → (∀ t, t ∈ c → P 1 j ≠ nI t) → (∀ d, d ∈ dn → ∀ t, t ∈ c → P 1 d ≠ nI t) → gCur P Pc dn D → dC N Q Pc s →
    i + c.length = L → c.length < n → (∀ r, r < c.length → s 40 (i + r) = nI (c.getD r 0)) →
    ∃ s2, f_X2_repairByChain_h27 n (nI L) (nI x) (nI j) (nI i) s = some (1, s2) ∧ dFp s s2 ∧ dC N Q (aAsg Pc js c) s2 ∧ s2 32 = s 32 := by
  have hB := dWN_b hN
  intro c
  induction c with
  | nil => intro j i n js Pc dn D s h; exact h.elim
  | cons t c ih =>
    intro j i n js Pc dn D s h hnd hlt hj h3 h1 hd hcur hC hi hn hmem
    obtain ⟨n, rfl⟩ : ∃ m, n = m + 1 := ⟨n - 1, by omega⟩
    have hlen : (t :: c).length = c.length + 1 := rfl
    obtain ⟨ht, htD⟩ := hlt t List.mem_cons_self
    have e40 := hmem 0 (by omega)
    rw [Nat.add_zero] at e40
    have hC2 : dC N Q (pT Pc j (nI t) 0) (ga_up (ga_up s 24 j (nI t)) 28 j 0) := dC_pT (by omega) hC
    have hf2 : dFp s (ga_up (ga_up s 24 j (nI t)) 28 j 0) := dFp_trans (dFp_up _ _ _ (by omega) (by omega)) (dFp_up _ _ _ (by omega) (by omega))
    have step : f_X2_repairByChain_h27 (n + 1) (nI L) (nI x) (nI j) (nI i) s = f_X2_repairByChain_h27 n (nI L) (nI x) (aAt N Pc 1 (nI x) (nI t)) (nI (i + 1)) (ga_up (ga_up s 24 j (nI t)) 28 j 0) := by
      rw [f_X2_repairByChain_h27]
      dsimp only
      rw [if_neg (nI_ge (show i < L by omega) (by omega)), d_at (show i < 4 by omega) (by omega), e40]
      show (f_X3_lessonAt_23 (nI x) (nI t) s).bind _ = _
      rw [dc_lessonAt_23 hN hC, Option.bind_some, ve_X3_letTeach, d_p1]
      unfold vb_X3_letTeach
      dsimp only
      rw [show (nI ((t :: c).getD 0 0)) = nI t from rfl, d_pt (show j < 40 by omega) (by omega), d_pt (show j < 40 by omega) (by omega)]
    cases c with
    | nil =>
      obtain ⟨rfl, ha⟩ := h
      obtain ⟨n, rfl⟩ : ∃ m, n = m + 1 := ⟨n - 1, by simp at hn; omega⟩
      have hl1 : i + 1 = L := by simpa using hi
      refine ⟨_, ?_, hf2, hC2, by rw [d_up_ne (by decide), d_up_ne (by decide)]⟩
      rw [step, f_X2_repairByChain_h27, if_pos (nI_le (show L ≤ i + 1 by omega) (by omega)), if_neg (nI_nle (show 0 < L by omega) (by omega))]
    | cons u c =>
      obtain ⟨k, js', rfl, ⟨hk, k0, k1, k3⟩, hJ⟩ := h
      have hnd2 := List.nodup_cons.mp hnd
      have tne : ∀ u', u' ∈ u :: c → nI t ≠ nI u' := fun u' hu' e => by
        have := (hlt u' (List.mem_cons_of_mem _ hu')).1
        rw [nI_eq (by omega) (by omega)] at e
        exact hnd2.1 (by rw [e]; exact hu')
      have ek := gCur_at hN hP hcur ht htD hk k0 k1 (fun d hd' => hd d hd' t List.mem_cons_self)
      obtain ⟨s2, g1, g2, g3, g4⟩ := ih k (i + 1) n js' (pT Pc j (nI t) 0) (j :: dn) (t :: D) _ hJ hnd2.2 (fun u' hu' => ⟨(hlt u' (List.mem_cons_of_mem _ hu')).1, fun e => by
          rcases List.mem_cons.mp e with e | e
          · exact hnd2.1 (by rw [← e]; exact hu')
          · exact (hlt u' (List.mem_cons_of_mem _ hu')).2 e⟩) hk k3 (fun u' hu' => by rw [k1]; exact tne u' hu') (fun d hd' u' hu' => by
          rcases List.mem_cons.mp hd' with e | e
          · rw [e]; exact h1 u' (List.mem_cons_of_mem _ hu')
          · exact hd d e u' (List.mem_cons_of_mem _ hu')) (gCur_step hcur (by omega) h3) hC2 (by omega) (by omega) (fun r hr => by
          rw [d_up_ne (by decide), d_up_ne (by decide)]
          have := hmem (r + 1) (by omega)
          rw [show i + 1 + r = i + (r + 1) by omega, this]; rfl)
      refine ⟨s2, by rw [step, ek]; exact g1, dFp_trans hf2 g2, g3, by rw [g4, d_up_ne (by decide), d_up_ne (by decide)]⟩
theorem pT_pS {j : Nat} {v : Int32} (h : P 3 j = 0) : pT P j v 0 = pS P 1 j v := by
  funext a k
  unfold pT pS
  by_cases e : a = 3 ∧ k = j
  · rw [if_pos e, if_neg (by omega), e.1, e.2, h]
  · rw [if_neg e]
theorem m_chain (hN : dWN N) (hP : dWP N P) {x L : Nat} (hL : L ≤ 4) : ∀ (c : List Nat) (j i n : Nat) (js : List Nat) (Pc : Nat → Nat → Int32) (dn D : List Nat) (s : ga_M), gJ N P (nI x) j c js → c.Nodup → (∀ t, t ∈ c → t < N 3 ∧ t ∉ D) → j < N 6 → P 3 j = 0 → (∀ t, t ∈ c → P 1 j ≠ nI t) → (∀ d, d ∈ dn → ∀ t, t ∈ c → P 1 d ≠ nI t) → gCur P Pc dn D → dM N Q Pc s → s 72 9 = nI L →
    i + c.length = L → c.length < n → (∀ r, r < c.length → s 79 (i + r) = nI (c.getD r 0)) →
    ∃ s2, f_X12_chains_h14 n (nI j) (nI x) (nI i) s = some s2 ∧ (∀ c, c ≠ 75 → s2 c = s c) ∧ dM N Q (aAsg Pc js c) s2 := by
  have hB := dWN_b hN
  intro c
  induction c with
  | nil => intro j i n js Pc dn D s h; exact h.elim
  | cons t c ih =>
    intro j i n js Pc dn D s h hnd hlt hj h3 h1 hd hcur hC h9 hi hn hmem
    obtain ⟨n, rfl⟩ : ∃ m, n = m + 1 := ⟨n - 1, by omega⟩
    have hlen : (t :: c).length = c.length + 1 := rfl
    obtain ⟨ht, htD⟩ := hlt t List.mem_cons_self
    have e40 := hmem 0 (by omega)
    rw [Nat.add_zero, show (nI ((t :: c).getD 0 0)) = nI t from rfl] at e40
    have hC2 : dM N Q (pT Pc j (nI t) 0) (ga_up s 75 (40 + j) (nI t)) := by
      rw [pT_pS (by rw [hcur.1 3 j (by omega)]; exact h3)]
      exact dM_pS (i := 1) (by omega) (by omega) (by omega) _ hC
    have hi4 := nI_in (c := i) (N := 4) (by omega) (by omega)
    have hi40 := nI_in (c := 40 + j) (N := 168) (by omega) (by omega)
    cases c with
    | nil =>
      obtain ⟨rfl, ha⟩ := h
      obtain ⟨n, rfl⟩ : ∃ m, n = m + 1 := ⟨n - 1, by simp at hn; omega⟩
      have hl1 : i + 1 = L := by simpa using hi
      refine ⟨_, ?_, fun a ha => d_up_ne ha, hC2⟩
      rw [f_X12_chains_h14]
      dsimp only
      rw [h9, if_neg (nI_ge (show i < L by omega) (by omega)), d_p1, if_pos (nI_le (show L ≤ i + 1 by omega) (by omega)), if_neg hi4, d_a40, if_neg hi40, d_cl (show i < 2147483648 by omega), d_cl (show 40 + j < 2147483648 by omega), e40]
      rw [f_X12_chains_h14, d_up_ne (show 72 ≠ 75 by decide), h9, if_pos (nI_le (show L ≤ i + 1 by omega) (by omega))]
    | cons u c =>
      obtain ⟨k, js', rfl, ⟨hk, k0, k1, k3⟩, hJ⟩ := h
      have hnd2 := List.nodup_cons.mp hnd
      have tne : ∀ u', u' ∈ u :: c → nI t ≠ nI u' := fun u' hu' e => by
        have := (hlt u' (List.mem_cons_of_mem _ hu')).1
        rw [nI_eq (by omega) (by omega)] at e
        exact hnd2.1 (by rw [e]; exact hu')
      have ek := gCur_at hN hP hcur ht htD hk k0 k1 (fun d hd' => hd d hd' t List.mem_cons_self)
      have hl2 : i + 1 < L := by simp at hi; omega
      have step : f_X12_chains_h14 (n + 1) (nI j) (nI x) (nI i) s = f_X12_chains_h14 n (nI k) (nI x) (nI (i + 1)) (ga_up s 75 (40 + j) (nI t)) := by
        rw [f_X12_chains_h14]
        dsimp only
        rw [h9, if_neg (nI_ge (show i < L by omega) (by omega)), d_p1, if_neg (nI_ge hl2 (by omega)), if_neg hi4, d_cl (show i < 2147483648 by omega), e40, dm_ofTeacher2 hN hC, Option.bind_some, ek, d_a40, if_neg (show ¬ (nI i < 0 ∨ 4 ≤ i) from fun o => o.elim (nI_pos (by omega)) (by omega)), if_neg hi40, d_cl (show 40 + j < 2147483648 by omega)]
      obtain ⟨s2, g1, g2, g3⟩ := ih k (i + 1) n js' (pT Pc j (nI t) 0) (j :: dn) (t :: D) _ hJ hnd2.2 (fun u' hu' => ⟨(hlt u' (List.mem_cons_of_mem _ hu')).1, fun e => by
          rcases List.mem_cons.mp e with e | e
          · exact hnd2.1 (by rw [← e]; exact hu')
          · exact (hlt u' (List.mem_cons_of_mem _ hu')).2 e⟩) hk k3 (fun u' hu' => by rw [k1]; exact tne u' hu') (fun d hd' u' hu' => by
          rcases List.mem_cons.mp hd' with e | e
          · rw [e]; exact h1 u' (List.mem_cons_of_mem _ hu')
          · exact hd d e u' (List.mem_cons_of_mem _ hu')) (gCur_step hcur (by omega) h3) hC2 (by rw [d_up_ne (by decide)]; exact h9) (by omega) (by omega) (fun r hr => by
          rw [d_up_ne (by decide)]
          have := hmem (r + 1) (by omega)
          rw [show i + 1 + r = i + (r + 1) by omega, this]; rfl)
      refine ⟨s2, by rw [step]; exact g1, fun a ha => by rw [g2 a ha, d_up_ne ha], g3⟩
/-- the repair of one lesson, both ways -/
theorem d_repair (hW : dW N Q P) {l : Nat} (hl : l < N 6) : ∃ (L : Nat) (P2 : Nat → Nat → Int32), L ≤ 4 ∧ dW N Q P2 ∧ (L = 0 → P2 = P) ∧
    (∀ s, dC N Q P s → ∃ s1, f_X2_repairByChain (nI l) s = some (aB (decide (L ≠ 0)), s1) ∧ dFp s s1 ∧ dC N Q P2 s1 ∧ s1 32 6 = nI L) ∧
    ∀ s, dM N Q P s → ∃ s1, f_X12_findChain (nI l) s = some (nI L, s1) ∧ gFr 0 s s1 ∧ (L ≠ 0 → ∀ t, dM N Q P t → t 72 9 = s1 72 9 → t 79 = s1 79 → ∃ t2, f_X12_chains (nI l) t = some t2 ∧ (∀ c, c ≠ 75 → t2 c = t c) ∧ dM N Q P2 t2 ∧ t2 72 9 = nI L) := by
  have hN := hW.1
  have hB := dWN_b hN
  obtain ⟨x, hx, ex⟩ := hW.2.2.1 l hl
  obtain ⟨c, hc, hlen, hcl, hml⟩ := d_find_both hW hl
  by_cases hc0 : c = []
  · subst hc0
    refine ⟨0, P, by omega, hW, fun _ => rfl, fun s h => ?_, fun s h => ?_⟩
    · obtain ⟨s1, e1, e2, e3, _⟩ := hcl s h
      have h1 : dC N Q P s1 := dC_lt (fun a ha => e2 a (by omega) (by omega) (by omega) (by omega) (by omega)) h
      refine ⟨s1, ?_, fun a ha => e2 a (by omega) (by omega) (by omega) (by omega) (by omega), h1, e3⟩
      rw [fe_X2_repairByChain]; unfold fb_X2_repairByChain
      rw [e1, Option.bind_some]
      dsimp only
      rw [show ga_fuel = (ga_fuel - 1) + 1 by have := d_fuel (n := 0) (by omega); omega, f_X2_repairByChain_h27]
      rfl
    · obtain ⟨s1, e1, e2, _⟩ := hml s h
      exact ⟨s1, e1, e2, fun e => absurd rfl e⟩
  · have h1 : P 1 l = -1 := by
      by_cases e : P 1 l = -1
      · exact e
      · exact absurd (hc.1 e) hc0
    have hbest := hc.2 h1
    have hnd := gBest_nodup hbest
    have hWk : gW (N 3) (gE N Q P (P 0 l)) (gF N Q P (P 0 l)) (gC N Q P (P 0 l) l) c := by
      rcases hbest with ⟨e, _⟩ | ⟨_, _, h, _⟩
      · exact absurd e hc0
      · exact h.1.1
    have hlt : ∀ t, t ∈ c → t < N 3 := by
      intro t ht
      obtain ⟨p, q, rfl⟩ := List.append_of_mem ht
      have key : ∀ (p : List Nat) (C : Nat → Bool), gW (N 3) (gE N Q P (P 0 l)) (gF N Q P (P 0 l)) C (p ++ t :: q) → t < N 3 := by
        intro p
        induction p with
        | nil => intro C h; exact (gW_iff.mp h).1
        | cons a p ih =>
          intro C h
          rcases (gW_iff.mp h).2.2 with ⟨h1, _⟩ | ⟨_, h2⟩
          · simp at h1
          · exact ih _ h2
      exact key p _ hWk
    obtain ⟨js, hjs⟩ := gJ_ex c _ hWk l
    have h3 : P 3 l = 0 := by
      rcases hW.2.2.2.2.2.1 l hl with e | ⟨_, e⟩
      · exact e
      · exact absurd h1 e
    have hne : ∀ t, t ∈ c → P 1 l ≠ nI t := fun t ht e => by
      have := hlt t ht
      rw [h1] at e; exact d_ne1 (by omega) e.symm
    obtain ⟨r1, _, _, _, _, _⟩ := gJ_ok hN hW.2.2 c l js hjs hnd hlt hl rfl h3 hne
    have hLne : c.length ≠ 0 := fun e => hc0 (List.length_eq_zero_iff.mp e)
    refine ⟨c.length, aAsg P js c, hlen, ⟨hN, hW.2.1, r1⟩, fun e => absurd e hLne, fun s h => ?_, fun s h => ?_⟩
    · obtain ⟨s1, e1, e2, e3, e4⟩ := hcl s h
      have hs1 : dC N Q P s1 := dC_lt (fun a ha => e2 a (by omega) (by omega) (by omega) (by omega) (by omega)) h
      have hf1 : dFp s s1 := fun a ha => e2 a (by omega) (by omega) (by omega) (by omega) (by omega)
      rw [ex] at hjs
      obtain ⟨s2, g1, g2, g3, g4⟩ := c_chain (Q := Q) (L := c.length) hN hW.2.2 hlen c l 0 ga_fuel js P [] [] s1 hjs hnd (fun t ht => ⟨hlt t ht, by simp⟩) hl h3 hne (fun d hd => by cases hd) ⟨fun _ _ _ => rfl, fun _ _ => rfl, fun k hk => by cases hk⟩ hs1 (by omega) (d_fuel (by omega)) (fun r hr => by rw [Nat.zero_add]; exact e4 r hr)
      refine ⟨s2, ?_, dFp_trans hf1 g2, g3, by rw [g4]; exact e3⟩
      rw [fe_X2_repairByChain]; unfold fb_X2_repairByChain
      rw [e1, Option.bind_some]
      dsimp only
      rw [d_at (show l < 40 by omega) (by omega), dc22 hs1 hl, ex, decide_eq_true hLne]
      exact g1
    · obtain ⟨s1, e1, e2, e3, e4⟩ := hml s h
      refine ⟨s1, e1, e2, fun _ t ht t9 t79 => ?_⟩
      rw [ex] at hjs
      obtain ⟨t2, g1, g2, g3⟩ := m_chain (Q := Q) (L := c.length) hN hW.2.2 hlen c l 0 ga_fuel js P [] [] t hjs hnd (fun t ht => ⟨hlt t ht, by simp⟩) hl h3 hne (fun d hd => by cases hd) ⟨fun _ _ _ => rfl, fun _ _ => rfl, fun k hk => by cases hk⟩ ht (by rw [t9]; exact e3) (by omega) (d_fuel (by omega)) (fun r hr => by rw [Nat.zero_add, t79]; exact e4 r hr)
      refine ⟨t2, ?_, g2, g3, by rw [g2 72 (by decide), t9]; exact e3⟩
      rw [fe_X12_chains]; unfold fb_X12_chains
      dsimp only
      rw [d_a0, if_neg (nI_in (c := l) (N := 168) (by omega) (by omega)), d_cl (show l < 2147483648 by omega), dm0 ht hl, ex]
      exact g1
/-- the repair of all -/
theorem d_repairs (hN : dWN N) : ∀ (m k : Nat) (P : Nat → Nat → Int32) (a : Int32), k + m = N 6 → dW N Q P → ∃ (P2 : Nat → Nat → Int32) (v : Int32), dW N Q P2 ∧
    (∀ s n, m < n → dC N Q P s → ∃ s1, f_X2_repairOpenLessons_h4 n a (nI k) s = some (v, s1) ∧ dFp s s1 ∧ dC N Q P2 s1) ∧
    ∀ s n, m < n → dM N Q P s → ∃ s1, f_X12_repairsAll_h4 n a (nI k) s = some (v, s1) ∧ dFq s s1 ∧ dM N Q P2 s1 := by
  have hB := dWN_b hN
  intro m
  induction m with
  | zero =>
    intro k P a hk hW
    have : k = N 6 := by omega
    subst this
    refine ⟨P, a, hW, fun s n hn h => ?_, fun s n hn h => ?_⟩
    · obtain ⟨n, rfl⟩ : ∃ j, n = j + 1 := ⟨n - 1, by omega⟩
      refine ⟨s, ?_, dFp_refl s, h⟩
      rw [f_X2_repairOpenLessons_h4, dcN h (by decide), if_pos (nI_le (Nat.le_refl _) (by omega))]
    · obtain ⟨n, rfl⟩ : ∃ j, n = j + 1 := ⟨n - 1, by omega⟩
      refine ⟨s, ?_, dFq_refl s, h⟩
      rw [f_X12_repairsAll_h4, dmN h (by decide), if_pos (nI_le (Nat.le_refl _) (by omega))]
  | succ m ih =>
    intro k P a hk hW
    obtain ⟨L, P1, hL, hW1, hP1, hc, hm⟩ := d_repair hW (show k < N 6 by omega)
    obtain ⟨P2, v, hW2, hc2, hm2⟩ := ih (k + 1) P1 (if L = 0 then a else a + 1) (by omega) hW1
    refine ⟨P2, v, hW2, fun s n hn h => ?_, fun s n hn h => ?_⟩
    · obtain ⟨n, rfl⟩ : ∃ j, n = j + 1 := ⟨n - 1, by omega⟩
      obtain ⟨s1, e1, e2, e3, _⟩ := hc s h
      obtain ⟨s2, g1, g2, g3⟩ := hc2 s1 n (by omega) e3
      refine ⟨s2, ?_, dFp_trans e2 g2, g3⟩
      rw [f_X2_repairOpenLessons_h4]
      dsimp only
      rw [dcN h (by decide), if_neg (nI_ge (show k < N 6 by omega) (by omega)), e1, Option.bind_some, d_p1, ← g1]
      dsimp only
      by_cases c : L = 0
      · rw [if_pos c, decide_eq_false (fun q => q c), if_pos (show aB false = 0 from rfl)]
      · rw [if_neg c, decide_eq_true c, if_neg (show ¬ aB true = 0 by decide)]
    · obtain ⟨n, rfl⟩ : ∃ j, n = j + 1 := ⟨n - 1, by omega⟩
      obtain ⟨s1, e1, e2, e3⟩ := hm s h
      by_cases c : L = 0
      · have hs1 : dM N Q P1 s1 := by rw [hP1 c]; exact gFr_dM e2 h
        obtain ⟨s2, g1, g2, g3⟩ := hm2 s1 n (by omega) hs1
        refine ⟨s2, ?_, dFq_trans (dFq_gFr e2) g2, g3⟩
        rw [f_X12_repairsAll_h4]
        dsimp only
        rw [dmN h (by decide), if_neg (nI_ge (show k < N 6 by omega) (by omega)), e1, Option.bind_some, d_p1, ← g1]
        dsimp only
        rw [if_pos c, c, if_pos (show nI 0 = 0 from rfl)]
      · obtain ⟨t2, f1, f2, f3, _⟩ := e3 c s1 (gFr_dM e2 h) rfl rfl
        obtain ⟨s2, g1, g2, g3⟩ := hm2 t2 n (by omega) f3
        refine ⟨s2, ?_, dFq_trans (dFq_trans (dFq_gFr e2) ⟨fun a _ a2 _ _ => f2 a a2, fun f _ _ => by rw [f2 72 (by decide)]⟩) g2, g3⟩
        rw [f_X12_repairsAll_h4]
        dsimp only
        rw [dmN h (by decide), if_neg (nI_ge (show k < N 6 by omega) (by omega)), e1, Option.bind_some, d_p1, ← g1]
        dsimp only
        rw [if_neg c, if_neg (nI_ne0 (by omega) (by omega)), f1, Option.bind_some]
end D36
