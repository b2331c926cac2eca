section D60
/-! ===== the states that the law's loop begins with ===== -/
variable {s : ga_M}
def iN : Nat → Nat := fun k => if k = 1 then 2 else if k = 3 then 2 else 1
def iQ : Nat → Nat → Int32 := fun a _ => if a = 2 then 2 else if a = 3 then 1 else 0
theorem iN_ok : dWN iN := by unfold dWN iN; decide
theorem iQ_ok : dWQ iN iQ := by
  have h6 : iN 6 = 1 := rfl
  unfold dWQ
  rw [h6]
  exact ⟨fun k hk => ⟨0, by decide, rfl⟩, fun k hk => ⟨0, by decide, rfl⟩, fun k hk => ⟨0, by decide, rfl⟩, fun k hk => ⟨0, by decide, rfl⟩, fun i k hi hk hik => by omega, fun i k hi hk hik => by omega⟩
theorem z_eq (s : ga_M) (a k : Nat) : ga_z s a a k = 0 := by unfold ga_z; simp
theorem z_nq {s : ga_M} {a b : Nat} (h : b ≠ a) : ga_z s a b = s b := by unfold ga_z; simp [h]
theorem a_sub (h : s 1 2 = nI 0) (v : Int32) : v_X7_addSubject v s = ga_up (ga_up s 3 0 v) 1 2 (nI 1) := by
  rw [ve_X7_addSubject]; unfold vb_X7_addSubject
  dsimp only
  rw [h, d_pt (show 0 < 6 by omega) (by omega), d_up_ne (show 1 ≠ 3 by decide), h, d_p1]
theorem a_room (h : s 1 4 = nI 0) (v : Int32) : v_X7_addRoom v s = ga_up (ga_up s 9 0 v) 1 4 (nI 1) := by
  rw [ve_X7_addRoom]; unfold vb_X7_addRoom
  dsimp only
  rw [h, d_pt (show 0 < 6 by omega) (by omega), d_up_ne (show 1 ≠ 9 by decide), h, d_p1]
theorem a_tea {m : Nat} (h : s 1 3 = nI m) (hm : m < 8) (v w : Int32) : v_X7_addTeacher v w s = ga_up (ga_up (ga_up s 5 m v) 7 m w) 1 3 (nI (m + 1)) := by
  rw [ve_X7_addTeacher]; unfold vb_X7_addTeacher
  dsimp only
  rw [h, d_pt hm (by omega), d_up_ne (show 1 ≠ 5 by decide), h, d_pt hm (by omega), d_up_ne (show 1 ≠ 7 by decide), d_up_ne (show 1 ≠ 5 by decide), h, d_p1]
theorem a_les (h : s 1 6 = nI 0) (a b c d e : Int32) : v_X7_addLesson a b c d e s = ga_up (ga_up (ga_up (ga_up (ga_up (ga_up s 15 0 a) 11 0 b) 13 0 c) 17 0 d) 19 0 e) 1 6 (nI 1) := by
  rw [ve_X7_addLesson]; unfold vb_X7_addLesson
  dsimp only
  rw [h, d_pt (show 0 < 40 by omega) (by omega), d_up_ne (show 1 ≠ 15 by decide), h, d_pt (show 0 < 40 by omega) (by omega), d_up_ne (show 1 ≠ 11 by decide), d_up_ne (show 1 ≠ 15 by decide), h, d_pt (show 0 < 40 by omega) (by omega), d_up_ne (show 1 ≠ 13 by decide), d_up_ne (show 1 ≠ 11 by decide), d_up_ne (show 1 ≠ 15 by decide), h, d_pt (show 0 < 40 by omega) (by omega), d_up_ne (show 1 ≠ 17 by decide), d_up_ne (show 1 ≠ 13 by decide), d_up_ne (show 1 ≠ 11 by decide), d_up_ne (show 1 ≠ 15 by decide), h, d_pt (show 0 < 40 by omega) (by omega), d_up_ne (show 1 ≠ 19 by decide), d_up_ne (show 1 ≠ 17 by decide), d_up_ne (show 1 ≠ 13 by decide), d_up_ne (show 1 ≠ 11 by decide), d_up_ne (show 1 ≠ 15 by decide), h, d_p1]
def dCe (s : ga_M) (a b c d e f g : Nat) : Prop := s 1 0 = nI a ∧ s 1 1 = nI b ∧ s 1 2 = nI c ∧ s 1 3 = nI d ∧ s 1 4 = nI e ∧ s 1 5 = nI f ∧ s 1 6 = nI g
theorem c_sample (u : ga_M) : dCS 1 iN iQ (v_X7_becomeSample u) := by
  rw [ve_X7_becomeSample]; unfold vb_X7_becomeSample
  dsimp only
  generalize h0 : ga_up (ga_up (v_X7_becomeEmpty u) 1 0 1) 1 1 2 = s0
  have c0 : dCe s0 1 2 0 0 0 0 0 := by
    rw [← h0, ve_X7_becomeEmpty]; unfold vb_X7_becomeEmpty dCe
    simp (disch := omega) only [d_up_nk, d_up_eq]
    exact ⟨rfl, rfl, rfl, rfl, rfl, rfl, rfl⟩
  obtain ⟨c00, c01, c02, c03, c04, c05, c06⟩ := c0
  rw [a_sub (s := s0) c02]
  generalize h1 : ga_up (ga_up s0 3 0 0) 1 2 (nI 1) = s1
  have d1 : ∀ k, k ≠ 2 → s1 1 k = s0 1 k := fun k hk => by rw [← h1, d_up_nk (by omega), d_up_ne (by omega)]
  rw [a_tea (s := s1) (m := 0) (by rw [d1 3 (by omega)]; exact c03) (by omega)]
  generalize h2 : ga_up (ga_up (ga_up s1 5 0 2) 7 0 1) 1 3 (nI (0 + 1)) = s2
  have d2 : ∀ k, k ≠ 3 → s2 1 k = s1 1 k := fun k hk => by rw [← h2, d_up_nk (by omega), d_up_ne (by omega), d_up_ne (by omega)]
  rw [a_tea (s := s2) (m := 1) (by rw [← h2, d_up_eq]) (by omega)]
  generalize h3 : ga_up (ga_up (ga_up s2 5 1 2) 7 1 1) 1 3 (nI (1 + 1)) = s3
  have d3 : ∀ k, k ≠ 3 → s3 1 k = s2 1 k := fun k hk => by rw [← h3, d_up_nk (by omega), d_up_ne (by omega), d_up_ne (by omega)]
  rw [a_room (s := s3) (by rw [d3 4 (by omega), d2 4 (by omega), d1 4 (by omega)]; exact c04)]
  generalize h4 : ga_up (ga_up s3 9 0 0) 1 4 (nI 1) = s4
  have d4 : ∀ k, k ≠ 4 → s4 1 k = s3 1 k := fun k hk => by rw [← h4, d_up_nk (by omega), d_up_ne (by omega)]
  rw [a_les (s := ga_up s4 1 5 1) (by rw [d_up_nk (by omega), d4 6 (by omega), d3 6 (by omega), d2 6 (by omega), d1 6 (by omega)]; exact c06)]
  generalize h5 : ga_up s4 1 5 1 = s5
  have d5 : ∀ k, k ≠ 5 → s5 1 k = s4 1 k := fun k hk => by rw [← h5, d_up_nk (by omega)]
  have x1 : ∀ c, c ≠ 1 → c ≠ 3 → s1 c = s0 c := fun c a b => by rw [← h1, d_up_ne a, d_up_ne b]
  have x2 : ∀ c, c ≠ 1 → c ≠ 5 → c ≠ 7 → s2 c = s1 c := fun c a b d => by rw [← h2, d_up_ne a, d_up_ne d, d_up_ne b]
  have x3 : ∀ c, c ≠ 1 → c ≠ 5 → c ≠ 7 → s3 c = s2 c := fun c a b d => by rw [← h3, d_up_ne a, d_up_ne d, d_up_ne b]
  have x4 : ∀ c, c ≠ 1 → c ≠ 9 → s4 c = s3 c := fun c a b => by rw [← h4, d_up_ne a, d_up_ne b]
  have x5 : ∀ c, c ≠ 1 → s5 c = s4 c := fun c a => by rw [← h5, d_up_ne a]
  have k0 : ∀ k, k < 1 → k = 0 := fun k hk => by omega
  refine ⟨fun k hk => ?_, fun k hk => ?_, fun k hk => ?_, fun k hk => ?_, fun k hk => ?_, fun k hk => ?_, fun k hk => ?_, fun k hk => ?_, fun k hk => ?_, fun k hk => ?_⟩
  · rcases (show k = 0 ∨ k = 1 ∨ k = 2 ∨ k = 3 ∨ k = 4 ∨ k = 5 ∨ k = 6 by omega) with rfl | rfl | rfl | rfl | rfl | rfl | rfl
    · rw [d_up_nk (by omega), d_up_ne (by omega), d_up_ne (by omega), d_up_ne (by omega), d_up_ne (by omega), d_up_ne (by omega), d5 0 (by omega), d4 0 (by omega), d3 0 (by omega), d2 0 (by omega), d1 0 (by omega)]; exact c00
    · rw [d_up_nk (by omega), d_up_ne (by omega), d_up_ne (by omega), d_up_ne (by omega), d_up_ne (by omega), d_up_ne (by omega), d5 1 (by omega), d4 1 (by omega), d3 1 (by omega), d2 1 (by omega), d1 1 (by omega)]; exact c01
    · rw [d_up_nk (by omega), d_up_ne (by omega), d_up_ne (by omega), d_up_ne (by omega), d_up_ne (by omega), d_up_ne (by omega), d5 2 (by omega), d4 2 (by omega), d3 2 (by omega), d2 2 (by omega), ← h1, d_up_eq]; rfl
    · rw [d_up_nk (by omega), d_up_ne (by omega), d_up_ne (by omega), d_up_ne (by omega), d_up_ne (by omega), d_up_ne (by omega), d5 3 (by omega), d4 3 (by omega), ← h3, d_up_eq]; rfl
    · rw [d_up_nk (by omega), d_up_ne (by omega), d_up_ne (by omega), d_up_ne (by omega), d_up_ne (by omega), d_up_ne (by omega), d5 4 (by omega), ← h4, d_up_eq]; rfl
    · rw [d_up_nk (by omega), d_up_ne (by omega), d_up_ne (by omega), d_up_ne (by omega), d_up_ne (by omega), d_up_ne (by omega), ← h5, d_up_eq]; rfl
    · rw [d_up_eq]; rfl
  · obtain rfl := k0 k hk
    rw [d_up_ne (by omega), d_up_ne (by omega), d_up_ne (by omega), d_up_ne (by omega), d_up_ne (by omega), d_up_ne (by omega), x5 3 (by omega), x4 3 (by omega) (by omega), x3 3 (by omega) (by omega) (by omega), x2 3 (by omega) (by omega) (by omega), ← h1, d_up_ne (by omega), d_up_eq]; rfl
  · rw [d_up_ne (by omega), d_up_ne (by omega), d_up_ne (by omega), d_up_ne (by omega), d_up_ne (by omega), d_up_ne (by omega), x5 5 (by omega), x4 5 (by omega) (by omega)]
    rcases (show k = 0 ∨ k = 1 from by have : k < 2 := hk; omega) with rfl | rfl
    · rw [← h3, d_up_ne (by omega), d_up_ne (by omega), d_up_nk (by omega), ← h2, d_up_ne (by omega), d_up_ne (by omega), d_up_eq]; rfl
    · rw [← h3, d_up_ne (by omega), d_up_ne (by omega), d_up_eq]; rfl
  · rw [d_up_ne (by omega), d_up_ne (by omega), d_up_ne (by omega), d_up_ne (by omega), d_up_ne (by omega), d_up_ne (by omega), x5 7 (by omega), x4 7 (by omega) (by omega)]
    rcases (show k = 0 ∨ k = 1 from by have : k < 2 := hk; omega) with rfl | rfl
    · rw [← h3, d_up_ne (by omega), d_up_nk (by omega), d_up_ne (by omega), ← h2, d_up_ne (by omega), d_up_eq]; rfl
    · rw [← h3, d_up_ne (by omega), d_up_eq]; rfl
  · obtain rfl := k0 k hk
    rw [d_up_ne (by omega), d_up_ne (by omega), d_up_ne (by omega), d_up_ne (by omega), d_up_ne (by omega), d_up_ne (by omega), x5 9 (by omega), ← h4, d_up_ne (by omega), d_up_eq]; rfl
  · obtain rfl := k0 k hk
    rw [d_up_ne (by omega), d_up_ne (by omega), d_up_ne (by omega), d_up_ne (by omega), d_up_eq]; rfl
  · obtain rfl := k0 k hk
    rw [d_up_ne (by omega), d_up_ne (by omega), d_up_ne (by omega), d_up_eq]; rfl
  · obtain rfl := k0 k hk
    rw [d_up_ne (by omega), d_up_ne (by omega), d_up_ne (by omega), d_up_ne (by omega), d_up_ne (by omega), d_up_eq]; rfl
  · obtain rfl := k0 k hk
    rw [d_up_ne (by omega), d_up_ne (by omega), d_up_eq]; rfl
  · obtain rfl := k0 k hk
    rw [d_up_ne (by omega), d_up_eq]; rfl
theorem c_init (s : ga_M) : ∃ s1, zk_X11_init_0 s = some (gkB_X11_init_0, s1) ∧ dC iN iQ (dP0 iQ) s1 ∧ s1 42 2 = 0 ∧ s1 42 3 = 0 ∧ s1 45 1 = 0 ∧ s1 45 6 = 0 ∧ s1 45 7 = -1 ∧ s1 69 3 = 0 := by
  rw [ze_X11_init_0]; unfold zb_X11_init_0
  have hS : dCS 1 iN iQ (zk_X3_init_20 (ga_z (v_X7_becomeSample (zk_X7_init_1 (ga_z s 1))) 20)) := by
    have h0 := c_sample (zk_X7_init_1 (ga_z s 1))
    generalize v_X7_becomeSample (zk_X7_init_1 (ga_z s 1)) = u at h0 ⊢
    have e : ∀ c, c ≤ 19 → zk_X3_init_20 (ga_z u 20) c = u c := fun c hc => by
      rw [ze_X3_init_20]; unfold zb_X3_init_20
      simp (disch := omega) only [z_nq]
    unfold dCS at *
    simp only [e 1 (by omega), e (1 + 2) (by omega), e (1 + 4) (by omega), e (1 + 6) (by omega), e (1 + 8) (by omega), e (1 + 10) (by omega), e (1 + 12) (by omega), e (1 + 14) (by omega), e (1 + 16) (by omega), e (1 + 18) (by omega)]
    exact h0
  obtain ⟨u, e1, _, h1⟩ := c_begin iN_ok iQ_ok hS
  rw [e1, Option.bind_some]
  refine ⟨_, rfl, dC_lt (fun c hc => ?_) h1, ?_, ?_, ?_, ?_, ?_, ?_⟩
  all_goals
    rw [ze_X5_init_69, ze_X9_init_68, ze_X8_init_48, ze_X10_init_45, ze_X1_init_42, ze_X2_init_41, ze_X0_init_32, ze_X4_init_31]
    unfold zb_X5_init_69 zb_X9_init_68 zb_X8_init_48 zb_X10_init_45 zb_X1_init_42 zb_X2_init_41 zb_X0_init_32 zb_X4_init_31
    rw [ze_X7_init_49]
    unfold zb_X7_init_49
    simp (disch := omega) only [z_nq, d_up_ne, d_up_nk, d_up_eq, z_eq]
theorem gk_r0 : gk_eq gkB_X11_init_0 gkB_X11_init_0 = true := by rfl
end D60
