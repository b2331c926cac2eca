section E3
/-! ===== chains and repairs: what they do to the plan ===== -/
variable {N : Nat → Nat} {Q P : Nat → Nat → Int32}
def cN (p : Nat → Bool) (n : Nat) : Nat := nCt p n 0
theorem cN_t (p : Nat → Bool) (n : Nat) : dCt p n = nI (cN p n) := dCt_n p n
theorem nCt_cong {p q : Nat → Bool} : ∀ m k, (∀ j, k ≤ j → j < k + m → p j = q j) → nCt p m k = nCt q m k := by
  intro m
  induction m with
  | zero => intro k _; rfl
  | succ m ih =>
    intro k h
    unfold nCt
    rw [h k (Nat.le_refl _) (by omega), ih (k + 1) (fun j h1 h2 => h j (by omega) (by omega))]
theorem cN_cong {p q : Nat → Bool} {n : Nat} (h : ∀ j, j < n → p j = q j) : cN p n = cN q n := nCt_cong n 0 (fun j _ h2 => h j (by omega))
/-- one more -/
theorem cN_one {p q : Nat → Bool} {n v : Nat} (hv : v < n) (hp : p v = false) (hq : q v = true) (h : ∀ j, j < n → j ≠ v → q j = p j) : cN q n = cN p n + 1 := by
  have e : cN q n = cN (fun i => (p i || decide (i = v))) n := cN_cong (fun j hj => by
    by_cases c : j = v
    · rw [c, hq]; simp
    · rw [h j hj c]; simp [c])
  rw [e]
  unfold cN
  rw [nCt_set (p := p) (q := fun i => (p i || decide (i = v))) hp (fun i => rfl), if_pos ⟨Nat.zero_le _, by omega⟩]
/-- who teaches how many -/
def jTn (N : Nat → Nat) (P : Nat → Nat → Int32) (t : Nat) : Nat := cN (fun k => decide (P 1 k = nI t) && decide (P 3 k = 0)) (N 6)
def jOn (N : Nat → Nat) (P : Nat → Nat → Int32) : Nat := cN (fun k => decide (P 1 k = -1)) (N 6)
def jWn (N : Nat → Nat) (P : Nat → Nat → Int32) : Nat := cN (fun k => decide (P 3 k = 1)) (N 6)
theorem aBy_t (t : Nat) : aBy N P (nI t) = nI (jTn N P t) := cN_t _ _
theorem pT_taught (hN : dWN N) {l t : Nat} (hl : l < N 6) (h : aTaught P l = false ∨ P 1 l ≠ nI t) (h0 : ¬ (P 1 l = nI t ∧ P 3 l = 0)) : jTn N (pT P l (nI t) 0) t = jTn N P t + 1 := by
  unfold jTn
  refine cN_one hl ?_ ?_ (fun j hj c => ?_)
  · simp only [Bool.and_eq_false_iff, decide_eq_false_iff_not]
    by_cases e : P 1 l = nI t
    · exact Or.inr (fun q => h0 ⟨e, q⟩)
    · exact Or.inl e
  · rw [pT_1, pT_3, if_pos rfl, if_pos rfl]; simp
  · rw [pT_1, pT_3, if_neg c, if_neg c]
theorem pT_other {l t u : Nat} (hN : dWN N) (ht : t < N 3) (hu : u < N 3) (htu : u ≠ t) (h : P 1 l ≠ nI u) : jTn N (pT P l (nI t) 0) u = jTn N P u := by
  have hB := dWN_b hN
  unfold jTn
  refine cN_cong (fun j hj => ?_)
  rw [pT_1, pT_3]
  by_cases c : j = l
  · rw [if_pos c, if_pos c, c, decide_eq_false (show ¬ nI t = nI u from fun q => htu ((nI_eq (by omega) (by omega)).mp q).symm), decide_eq_false h]
    rfl
  · rw [if_neg c, if_neg c]
theorem pT_open1 (hN : dWN N) {l t : Nat} {w : Int32} (hl : l < N 6) (ht : t < N 3) (h : P 1 l = -1) : jOn N (pT P l (nI t) w) + 1 = jOn N P := by
  have hB := dWN_b hN
  unfold jOn
  refine (cN_one hl ?_ ?_ (fun j hj c => ?_)).symm
  · rw [pT_1, if_pos rfl]; exact decide_eq_false (d_ne1 (by omega))
  · exact decide_eq_true h
  · rw [pT_1, if_neg c]
theorem pT_open0 (hN : dWN N) {l t : Nat} {w : Int32} (ht : t < N 3) (h : P 1 l ≠ -1) : jOn N (pT P l (nI t) w) = jOn N P := by
  have hB := dWN_b hN
  unfold jOn
  refine cN_cong (fun j hj => ?_)
  rw [pT_1]
  by_cases c : j = l
  · rw [if_pos c, c, decide_eq_false (d_ne1 (show t < 2147483648 by omega)), decide_eq_false h]
  · rw [if_neg c]
theorem gLa_mem : ∀ {c : List Nat}, c ≠ [] → gLa c ∈ c := by
  intro c h
  cases c with
  | nil => exact absurd rfl h
  | cons a c => unfold gLa; rw [List.getLastD_cons]; exact List.getLastD_mem_cons
/-- what a chain does: the first lesson gets the first teacher, the last teacher one lesson more, one open lesson less -/
theorem gJ_more (hN : dWN N) (hP : dWP N P) {x : Int32} : ∀ (c : List Nat) (j : Nat) (js : List Nat), gJ N P x j c js → c.Nodup → (∀ t, t ∈ c → t < N 3) → j < N 6 → P 0 j = x → P 3 j = 0 → (∀ t, t ∈ c → P 1 j ≠ nI t) →
    aAsg P js c 1 j = nI (c.getD 0 0) ∧ jTn N (aAsg P js c) (gLa c) = jTn N P (gLa c) + 1 ∧ (P 1 j = -1 → jOn N (aAsg P js c) + 1 = jOn N P) ∧ (P 1 j ≠ -1 → jOn N (aAsg P js c) = jOn N P) := by
  have hB := dWN_b hN
  intro c
  induction c with
  | nil => intro j js h; exact h.elim
  | cons t c ih =>
    intro j js h hnd hlt hj h0 h3 h1
    have ht : t < N 3 := hlt t List.mem_cons_self
    have hjt : P 1 j ≠ nI t := h1 t List.mem_cons_self
    cases c with
    | nil =>
      obtain ⟨rfl, ha⟩ := h
      show pT P j (nI t) 0 1 j = nI t ∧ jTn N (pT P j (nI t) 0) t = jTn N P t + 1 ∧ (P 1 j = -1 → jOn N (pT P j (nI t) 0) + 1 = jOn N P) ∧ (P 1 j ≠ -1 → jOn N (pT P j (nI t) 0) = jOn N P)
      exact ⟨by rw [pT_1, if_pos rfl], pT_taught hN hj (Or.inr hjt) (fun q => hjt q.1), fun q => pT_open1 hN hj ht q, fun q => pT_open0 hN ht q⟩
    | cons u c =>
      obtain ⟨k, js', rfl, ⟨hk, k0, k1, k3⟩, hJ⟩ := h
      have hnd2 := List.nodup_cons.mp hnd
      have hlt2 : ∀ u', u' ∈ u :: c → u' < N 3 := fun u' hu' => hlt u' (List.mem_cons_of_mem _ hu')
      have tne : ∀ u', u' ∈ u :: c → nI t ≠ nI u' := fun u' hu' e => by
        rw [nI_eq (by omega) (by have := hlt2 u' hu'; omega)] at e
        exact hnd2.1 (by rw [e]; exact hu')
      have hk1 : ∀ u', u' ∈ u :: c → P 1 k ≠ nI u' := fun u' hu' => by rw [k1]; exact tne u' hu'
      obtain ⟨r1, r2, r3, r4, r5, r6⟩ := gJ_ok hN hP (u :: c) k js' hJ hnd2.2 hlt2 hk k0 k3 hk1
      obtain ⟨m1, m2, m3, m4⟩ := ih k js' hJ hnd2.2 hlt2 hk k0 k3 hk1
      have hjn : j ∉ js' := fun hm => by
        rcases r5 j hm with e | ⟨u', hu', e⟩
        · exact h1 t List.mem_cons_self (by rw [e]; exact k1)
        · exact h1 u' (List.mem_cons_of_mem _ hu') e
      have ea : aAsg P (j :: js') (t :: u :: c) = pT (aAsg P js' (u :: c)) j (nI t) 0 := aAsg_comm js' (u :: c) P hjn
      have hla : gLa (t :: u :: c) = gLa (u :: c) := rfl
      have hm := gLa_mem (c := u :: c) (by simp)
      have hkn : P 1 k ≠ -1 := by rw [k1]; exact d_ne1 (by omega)
      rw [ea, hla]
      refine ⟨by rw [pT_1, if_pos rfl]; rfl, ?_, fun q => ?_, fun q => ?_⟩
      · rw [pT_other hN ht (hlt2 _ hm) (fun q => hnd2.1 (by rw [← q]; exact hm)) (by rw [r2 j hjn]; exact h1 _ (List.mem_cons_of_mem _ hm)), m2]
      · rw [← m4 hkn]; exact pT_open1 hN hj ht (by rw [r2 j hjn]; exact q)
      · rw [pT_open0 hN ht (by rw [r2 j hjn]; exact q)]; exact m4 hkn
/-- .. and those who get a lesson are there and may teach it -/
theorem gJ_may (hN : dWN N) (hP : dWP N P) {x : Int32} : ∀ (c : List Nat) (j : Nat) (js : List Nat), gJ N P x j c js → gW (N 3) (gE N Q P x) (gF N Q P x) (gC N Q P x j) c → c.Nodup → (∀ t, t ∈ c → t < N 3) → j < N 6 → P 0 j = x → P 3 j = 0 → (∀ t, t ∈ c → P 1 j ≠ nI t) →
    (∀ k, k ∈ js → k < N 6 ∧ P 0 k = x) ∧ ∀ k u, k ∈ js → u < N 3 → aAsg P js c 1 k = nI u → gC N Q P x k u = true := by
  have hB := dWN_b hN
  intro c
  induction c with
  | nil => intro j js h; exact h.elim
  | cons t c ih =>
    intro j js h hw hnd hlt hj h0 h3 h1
    have ht : t < N 3 := hlt t List.mem_cons_self
    obtain ⟨w1, w2, w3⟩ := gW_iff.mp hw
    cases c with
    | nil =>
      obtain ⟨rfl, ha⟩ := h
      refine ⟨fun k hk => ?_, fun k u hk hu e => ?_⟩
      · rw [List.mem_singleton.mp hk]; exact ⟨hj, h0⟩
      · have e : pT P j (nI t) 0 1 k = nI u := e
        rw [List.mem_singleton.mp hk] at e ⊢
        rw [pT_1, if_pos rfl, nI_eq (by omega) (by omega)] at e
        rw [← e]; exact w2
    | cons u c =>
      obtain ⟨k, js', rfl, ⟨hk, k0, k1, k3⟩, hJ⟩ := h
      have hnd2 := List.nodup_cons.mp hnd
      have hlt2 : ∀ u', u' ∈ u :: c → u' < N 3 := fun u' hu' => hlt u' (List.mem_cons_of_mem _ hu')
      have tne : ∀ u', u' ∈ u :: c → nI t ≠ nI u' := fun u' hu' e => by
        rw [nI_eq (by omega) (by have := hlt2 u' hu'; omega)] at e
        exact hnd2.1 (by rw [e]; exact hu')
      have hk1 : ∀ u', u' ∈ u :: c → P 1 k ≠ nI u' := fun u' hu' => by rw [k1]; exact tne u' hu'
      obtain ⟨r1, r2, r3, r4, r5, r6⟩ := gJ_ok hN hP (u :: c) k js' hJ hnd2.2 hlt2 hk k0 k3 hk1
      have hjn : j ∉ js' := fun hm => by
        rcases r5 j hm with e | ⟨u', hu', e⟩
        · exact h1 t List.mem_cons_self (by rw [e]; exact k1)
        · exact h1 u' (List.mem_cons_of_mem _ hu') e
      have ea : aAsg P (j :: js') (t :: u :: c) = pT (aAsg P js' (u :: c)) j (nI t) 0 := aAsg_comm js' (u :: c) P hjn
      have hw2 : gW (N 3) (gE N Q P x) (gF N Q P x) (gE N Q P x t) (u :: c) := by
        rcases w3 with ⟨e, _⟩ | ⟨_, e⟩
        · cases e
        · exact e
      -- the edge of t is that of its lesson
      have hE : ∀ v, gE N Q P x t v = true → gC N Q P x k v = true := by
        intro v hv
        unfold gE at hv
        rw [decide_eq_true_eq] at hv
        obtain ⟨k', hk', a1, a2, a3, a4⟩ := hv
        have := dWP_t hP hk' hk (by rw [a1, k0]) (by rw [a2]; exact d_ne1 (by omega)) (by rw [a2, k1])
        rw [← this]; exact a4
      have hw3 : gW (N 3) (gE N Q P x) (gF N Q P x) (gC N Q P x k) (u :: c) := by
        obtain ⟨q1, q2, q3⟩ := gW_iff.mp hw2
        exact gW_iff.mpr ⟨q1, hE u q2, q3⟩
      obtain ⟨i1, i2⟩ := ih k js' hJ hw3 hnd2.2 hlt2 hk k0 k3 hk1
      rw [ea]
      refine ⟨fun k' hk' => ?_, fun k' u' hk' hu' e => ?_⟩
      · rcases List.mem_cons.mp hk' with e | e
        · rw [e]; exact ⟨hj, h0⟩
        · exact i1 k' e
      · rw [pT_1] at e
        by_cases c1 : k' = j
        · rw [if_pos c1, nI_eq (by omega) (by omega)] at e
          rw [c1, ← e]; exact w2
        · rw [if_neg c1] at e
          rcases List.mem_cons.mp hk' with e2 | e2
          · exact absurd e2 c1
          · exact i2 k' u' e2 hu' e
/-- a repair, by its chain -/
theorem a_repair (hW : dW N Q P) (hV : kV N Q P) {l : Nat} (hl : l < N 6) {c : List Nat} (hc : gCh N Q P l c) (hc0 : c ≠ []) :
    ∃ P2, dW N Q P2 ∧ kV N Q P2 ∧ P2 1 l = nI (c.getD 0 0) ∧ gLa c < N 3 ∧ jTn N P2 (gLa c) = jTn N P (gLa c) + 1 ∧ jOn N P2 + 1 = jOn N P ∧
      ∀ s, dC N Q P s → ∃ s1, f_X2_repairByChain (nI l) s = some (1, s1) ∧ dFp s s1 ∧ dC N Q P2 s1 ∧ s1 32 6 = nI c.length := by
  have hN := hW.1
  have hB := dWN_b hN
  obtain ⟨x, hx, ex⟩ := hW.2.2.1 l hl
  have h1 : P 1 l = -1 := by
    by_cases e : P 1 l = -1
    · exact e
    · exact absurd (hc.1 e) hc0
  have hbest := hc.2 h1
  have hnd := gBest_nodup hbest
  have hlen : c.length ≤ 4 := by
    rcases hbest with ⟨e, _⟩ | ⟨_, h, _⟩
    · exact absurd e hc0
    · exact h
  have hWk : gW (N 3) (gE N Q P (P 0 l)) (gF N Q P (P 0 l)) (gC N Q P (P 0 l) l) c := by
    rcases hbest with ⟨e, _⟩ | ⟨_, _, h, _⟩
    · exact absurd e hc0
    · exact h.1.1
  have hlt : ∀ t, t ∈ c → t < N 3 := by
    intro t ht
    obtain ⟨p, q, rfl⟩ := List.append_of_mem ht
    have key : ∀ (p : List Nat) (C : Nat → Bool), gW (N 3) (gE N Q P (P 0 l)) (gF N Q P (P 0 l)) C (p ++ t :: q) → t < N 3 := by
      intro p
      induction p with
      | nil => intro C h; exact (gW_iff.mp h).1
      | cons a p ih =>
        intro C h
        rcases (gW_iff.mp h).2.2 with ⟨h1, _⟩ | ⟨_, h2⟩
        · simp at h1
        · exact ih _ h2
    exact key p _ hWk
  obtain ⟨js, hjs⟩ := gJ_ex c _ hWk l
  have h3 : P 3 l = 0 := by
    rcases hW.2.2.2.2.2.1 l hl with e | ⟨_, e⟩
    · exact e
    · exact absurd h1 e
  have hne : ∀ t, t ∈ c → P 1 l ≠ nI t := fun t ht e => by
    have := hlt t ht
    rw [h1] at e; exact d_ne1 (by omega) e.symm
  obtain ⟨r1, r2, r3, r4, r5, r6⟩ := gJ_ok hN hW.2.2 c l js hjs hnd hlt hl rfl h3 hne
  obtain ⟨m1, m2, m3, m4⟩ := gJ_more hN hW.2.2 c l js hjs hnd hlt hl rfl h3 hne
  obtain ⟨n1, n2⟩ := gJ_may hN hW.2.2 c l js hjs hWk hnd hlt hl rfl h3 hne
  have hLne : c.length ≠ 0 := fun e => hc0 (List.length_eq_zero_iff.mp e)
  refine ⟨aAsg P js c, ⟨hN, hW.2.1, r1⟩, ?_, m1, hlt _ (gLa_mem hc0), m2, m3 h1, fun s h => ?_⟩
  · obtain ⟨a1, a2, a3, a4⟩ := hV
    refine ⟨fun i k hi hk hik e => ?_, fun k hk => ?_, fun k u hk hu e => ?_, fun k u hk hu e e3 => ?_⟩
    · rw [r4 0 i (by omega), r4 0 k (by omega)] at e; exact a1 i k hi hk hik e
    · rw [r4 2 k (by omega)]; exact a2 k hk
    · rw [aAway_c (P := P) (fun k => r4 4 k (by omega)), r4 0 k (by omega)]
      by_cases hm : k ∈ js
      · have := n2 k u hm hu e
        unfold gC at this
        rw [Bool.and_eq_true] at this
        rw [(n1 k hm).2]
        simpa using this.1
      · rw [r2 k hm] at e; exact a3 k u hk hu e
    · by_cases hm : k ∈ js
      · have := n2 k u hm hu e
        unfold gC at this
        rw [Bool.and_eq_true] at this
        exact this.2
      · rw [r2 k hm] at e
        rw [r4 3 k (by omega)] at e3
        exact a4 k u hk hu e e3
  · obtain ⟨s1, e1, e2, e3, e4⟩ := x_find hW h hl hc
    have hs1 : dC N Q P s1 := dC_lt (fun a ha => e2 a (by omega) (by omega) (by omega) (by omega) (by omega)) h
    have hf1 : dFp s s1 := fun a ha => e2 a (by omega) (by omega) (by omega) (by omega) (by omega)
    rw [ex] at hjs
    obtain ⟨s2, g1, g2, g3, g4⟩ := c_chain (Q := Q) (L := c.length) hN hW.2.2 hlen c l 0 ga_fuel js P [] [] s1 hjs hnd (fun t ht => ⟨hlt t ht, by simp⟩) hl h3 hne (fun d hd => by cases hd) ⟨fun _ _ _ => rfl, fun _ _ => rfl, fun k hk => by cases hk⟩ hs1 (by omega) (d_fuel (by omega)) (fun r hr => by rw [Nat.zero_add]; exact e4 r hr)
    refine ⟨s2, ?_, dFp_trans hf1 g2, g3, by rw [g4]; exact e3⟩
    rw [fe_X2_repairByChain]; unfold fb_X2_repairByChain
    rw [e1, Option.bind_some]
    dsimp only
    rw [d_at (show l < 40 by omega) (by omega), dc22 hs1 hl, ex]
    exact g1
/-- no chain: nothing is changed -/
theorem a_norepair (hW : dW N Q P) {l : Nat} (hl : l < N 6) (hc : gCh N Q P l []) : dAc N Q P P (f_X2_repairByChain (nI l)) 0 := by
  intro s h
  obtain ⟨s1, e1, e2, e3, _⟩ := x_find hW h hl hc
  have h1 : dC N Q P s1 := dC_lt (fun a ha => e2 a (by omega) (by omega) (by omega) (by omega) (by omega)) h
  refine ⟨s1, ?_, fun a ha => e2 a (by omega) (by omega) (by omega) (by omega) (by omega), h1⟩
  rw [fe_X2_repairByChain]; unfold fb_X2_repairByChain
  rw [e1, Option.bind_some]
  dsimp only
  rw [show ga_fuel = (ga_fuel - 1) + 1 by have := d_fuel (n := 0) (by omega); omega, f_X2_repairByChain_h27]
  rfl
variable {s : ga_M} {m : Nat} {H : Nat → Nat → Nat → Int32}
theorem y_repair (hW : dW N Q P) (hV : kV N Q P) (hz : dZ N Q P m H s) {l : Nat} (hl : l < N 6) {c : List Nat} (hc : gCh N Q P l c) (hc0 : c ≠ []) :
    ∃ P2 s1, dW N Q P2 ∧ kV N Q P2 ∧ P2 1 l = nI (c.getD 0 0) ∧ gLa c < N 3 ∧ jTn N P2 (gLa c) = jTn N P (gLa c) + 1 ∧ jOn N P2 + 1 = jOn N P ∧ f_L_repair_0 (nI l) s = some (.inl (nI c.length), s1) ∧ dZ N Q P2 (hN m) (hH m H P) s1 := by
  obtain ⟨h, hh⟩ := hz
  have hNw := hW.1
  have hB := dWN_b hNw
  obtain ⟨P2, p1, p2, p3, p4, p5, p6, p7⟩ := a_repair hW hV hl hc hc0
  obtain ⟨s3, e3, f3, g3⟩ := dc_mark (show N 6 ≤ 40 by omega) h hh
  have h3 : dC N Q P s3 := dC_lt (fun c hc => f3 c (by omega)) h
  obtain ⟨s4, e4, f4, h4, l4⟩ := p7 s3 h3
  obtain ⟨s5, e5, f5, g5⟩ := dc_keep (dCHm_cong (f4 42 (by omega)) (f4 44 (by omega)) g3)
  refine ⟨P2, s5, p1, p2, p3, p4, p5, p6, ?_, dC_lt (fun c hc => f5 c (by omega)) h4, g5⟩
  have ek : f_X11_keepUnlessRefused 1 s4 = some (none, s5) := by
    rw [fe_X11_keepUnlessRefused]; unfold fb_X11_keepUnlessRefused
    rw [if_neg (by decide), e5, Option.bind_some]
  have e : f_X11_repair (nI l) s = some (.inl (nI c.length), s5) := by
    rw [fe_X11_repair]; unfold fb_X11_repair
    simp only [cL_y hNw h hl, e3, e4, ek, f5 32 (by omega), l4, d_10, d_01, d_00, d_11, true_or, or_true, or_self, if_true, if_false, reduceIte, Option.elim_none, Option.elim_some, Option.bind_some, d_up_up]
  rw [fe_L_repair_0]; unfold fb_L_repair_0
  rw [e]; rfl
theorem n_repair (hW : dW N Q P) (hz : dZ N Q P m H s) {l : Nat} (hl : l < N 6) (hc : gCh N Q P l []) : ∃ s1, f_L_repair_0 (nI l) s = some (.inl (-1000), s1) ∧ dZ N Q P m H s1 := by
  obtain ⟨h, hh⟩ := hz
  have hNw := hW.1
  obtain ⟨s3, s4, e3, e4, e5, f5, h5, hh5⟩ := c_mkn hNw (act := f_X2_repairByChain (nI l)) (a_norepair hW hl hc) h hh
  refine ⟨s4, ?_, h5, hh5⟩
  have e : f_X11_repair (nI l) s = some (.inr 1, s4) := by
    rw [fe_X11_repair]; unfold fb_X11_repair
    simp only [cL_y hNw h hl, e3, e4, e5, d_10, d_01, d_00, d_11, true_or, or_true, or_self, if_true, if_false, reduceIte, Option.elim_none, Option.elim_some, Option.bind_some, d_up_up]
  rw [fe_L_repair_0]; unfold fb_L_repair_0
  rw [e]; rfl
theorem a_repairs : ∀ (m k : Nat) (P : Nat → Nat → Int32) (a : Nat), k + m = N 6 → dW N Q P → kV N Q P → (∃ s, dC N Q P s) → ∃ (P2 : Nat → Nat → Int32) (v : Nat), dW N Q P2 ∧ kV N Q P2 ∧ jOn N P2 + v = jOn N P ∧
    ∀ s n, m < n → dC N Q P s → ∃ s1, f_X2_repairOpenLessons_h4 n (nI a) (nI k) s = some (nI (a + v), s1) ∧ dFp s s1 ∧ dC N Q P2 s1 := by
  intro m
  induction m with
  | zero =>
    intro k P a hk hW hV _
    have hB := dWN_b hW.1
    have : k = N 6 := by omega
    subst this
    refine ⟨P, 0, hW, hV, rfl, fun s n hn h => ?_⟩
    obtain ⟨n, rfl⟩ : ∃ j, n = j + 1 := ⟨n - 1, by omega⟩
    refine ⟨s, ?_, dFp_refl s, h⟩
    rw [f_X2_repairOpenLessons_h4, dcN h (by decide), if_pos (nI_le (Nat.le_refl _) (by omega)), Nat.add_zero]
  | succ m ih =>
    intro k P a hk hW hV hex
    have hB := dWN_b hW.1
    obtain ⟨s0, hs0⟩ := hex
    obtain ⟨c, hc, hlen⟩ := gCh_ex hW hs0 (show k < N 6 by omega)
    by_cases hc0 : c = []
    · subst hc0
      have hn := a_norepair hW (show k < N 6 by omega) hc
      obtain ⟨P2, v, i1, i2, i3, i4⟩ := ih (k + 1) P a (by omega) hW hV ⟨s0, hs0⟩
      refine ⟨P2, v, i1, i2, i3, fun s n hn' h => ?_⟩
      obtain ⟨n, rfl⟩ : ∃ j, n = j + 1 := ⟨n - 1, by omega⟩
      obtain ⟨s1, e1, e2, e3⟩ := hn s h
      obtain ⟨s2, g1, g2, g3⟩ := i4 s1 n (by omega) e3
      refine ⟨s2, ?_, dFp_trans e2 g2, g3⟩
      rw [f_X2_repairOpenLessons_h4]
      dsimp only
      rw [dcN h (by decide), if_neg (nI_ge (show k < N 6 by omega) (by omega)), e1, Option.bind_some, d_p1, ← g1]
      rfl
    · obtain ⟨P1, p1, p2, _, _, _, p6, p7⟩ := a_repair hW hV (show k < N 6 by omega) hc hc0
      obtain ⟨s1, _, _, q3, _⟩ := p7 s0 hs0
      obtain ⟨P2, v, i1, i2, i3, i4⟩ := ih (k + 1) P1 (a + 1) (by omega) p1 p2 ⟨s1, q3⟩
      refine ⟨P2, v + 1, i1, i2, by omega, fun s n hn' h => ?_⟩
      obtain ⟨n, rfl⟩ : ∃ j, n = j + 1 := ⟨n - 1, by omega⟩
      obtain ⟨s1, e1, e2, e3, _⟩ := p7 s h
      obtain ⟨s2, g1, g2, g3⟩ := i4 s1 n (by omega) e3
      refine ⟨s2, ?_, dFp_trans e2 g2, g3⟩
      rw [show a + (v + 1) = a + 1 + v by omega, ← g1, f_X2_repairOpenLessons_h4]
      dsimp only
      rw [dcN h (by decide), if_neg (nI_ge (show k < N 6 by omega) (by omega)), e1, Option.bind_some, d_p1, d_p1]
      rfl
theorem y_repairAll (hW : dW N Q P) (hV : kV N Q P) (hz : dZ N Q P m H s) : ∃ P2 v s1, dW N Q P2 ∧ kV N Q P2 ∧ jOn N P2 + v = jOn N P ∧ f_X11_repairAll s = some (nI v, s1) ∧ dZ N Q P2 (hN m) (hH m H P) s1 := by
  obtain ⟨h, hh⟩ := hz
  have hNw := hW.1
  have hB := dWN_b hNw
  obtain ⟨P2, v, i1, i2, i3, i4⟩ := a_repairs (N 6) 0 P 0 (by omega) hW hV ⟨s, h⟩
  have hact : dAc N Q P P2 f_X2_repairOpenLessons (nI v) := fun s h => by
    rw [fe_X2_repairOpenLessons]
    obtain ⟨s1, e1, e2, e3⟩ := i4 s ga_fuel (d_fuel (by omega)) h
    rw [Nat.zero_add] at e1
    exact ⟨s1, e1, e2, e3⟩
  obtain ⟨s3, s4, s5, e3, e4, e5, f5, h5, hh5⟩ := c_mkk hNw (act := f_X2_repairOpenLessons) hact h hh
  refine ⟨P2, v, s5, i1, i2, i3, ?_, h5, hh5⟩
  rw [fe_X11_repairAll]; unfold fb_X11_repairAll
  simp only [e3, e4, e5, d_10, d_01, d_00, d_11, true_or, or_true, or_self, if_true, if_false, reduceIte, Option.elim_none, Option.elim_some, Option.bind_some, d_up_up]
end E3
