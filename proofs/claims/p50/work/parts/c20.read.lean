section E10
/-! ===== the reading of the law's text ===== -/
def kSt : Nat → Nat := fun j => ([0, 5, 7, 8, 9, 17, 18, 19, 27, 28, 29, 37, 39, 40, 41, 49, 51, 53, 54, 55, 63, 65, 66, 67, 75, 77, 79, 80, 81, 86, 87, 88, 93, 94, 95, 100, 101, 102, 110, 111, 112, 119, 121, 123, 125, 127, 128, 129, 136, 138, 140, 142, 144, 145, 146, 153, 155, 157, 159, 161, 162, 163, 170, 172, 174, 176, 178, 179, 180, 187, 189, 191, 193, 195, 196, 197, 204, 206, 208, 210, 212, 213, 214, 221, 223, 225, 227, 229, 230, 231] : List Nat).getD j 0
def kKd : Nat → Nat := fun j => ([1, 2, 2, 3, 1, 2, 3, 1, 2, 3, 1, 2, 2, 3, 1, 2, 2, 2, 3, 1, 2, 2, 3, 1, 2, 2, 2, 3, 1, 2, 3, 1, 2, 3, 1, 2, 3, 1, 2, 3, 1, 2, 2, 2, 2, 2, 3, 1, 2, 2, 2, 2, 2, 3, 1, 2, 2, 2, 2, 2, 3, 1, 2, 2, 2, 2, 2, 3, 1, 2, 2, 2, 2, 2, 3, 1, 2, 2, 2, 2, 2, 3, 1, 2, 2, 2, 2, 2, 3, 0] : List Nat).getD j 0
def kVl : Nat → Nat := fun j => ([0, 2, 3, 0, 0, 0, 0, 0, 1, 0, 0, 1, 0, 0, 0, 2, 0, 1, 0, 0, 1, 1, 0, 0, 9, 0, 1, 0, 0, 0, 0, 0, 1, 0, 0, 0, 0, 0, 2, 0, 0, 0, 0, 0, 0, 0, 0, 0, 0, 1, 1, 2, 1, 0, 0, 1, 0, 1, 1, 1, 0, 0, 1, 1, 0, 0, 0, 0, 0, 3, 0, 0, 1, 2, 0, 0, 3, 1, 1, 2, 1, 0, 0, 4, 1, 0, 3, 0, 0, 0] : List Nat).getD j 0
theorem k_tok : ∀ j, j < 89 → tK kTx 231 (kSt j) = kKd j ∧ tX kTx 231 (kSt j) = kSt (j + 1) ∧ (kKd j = 2 → tV kTx 231 (kSt j) = kVl j) ∧ kSt j ≤ 231 ∧ kVl j < 1000 := by decide +kernel
theorem k_tok0 : tS kTx 231 0 = kSt 0 := by decide +kernel
variable {s s0 : ga_M} {j : Nat} {l : List Nat} {N : Nat → Nat}
def kU (s0 : ga_M) (j : Nat) (N : Nat → Nat) (s : ga_M) : Prop := cK kTx 231 (kSt j) s ∧ dC2 49 N kQ s ∧ pFc s0 s
theorem cK_cong {T : Nat → Nat} {L st : Nat} {s2 : ga_M} (e1 : s2 45 = s 45) (e2 : s2 47 = s 47) (h : cK T L st s) : cK T L st s2 := by
  unfold cK cX at *
  rw [e1, e2]; exact h
theorem u_next (hj : j < 89) (h : kU s0 j N s) : ∃ s2, f_X10_next s = some s2 ∧ kU s0 (j + 1) N s2 := by
  obtain ⟨h1, h2, h3⟩ := h
  obtain ⟨s2, e2, k2, f2, _⟩ := c_next kT_ok (tE_le (T := kTx) kT_ok.1 h1.2.1).2 h1.1 h1.2.2.2.2.1
  have e := (k_tok j hj).2.1
  unfold tX at e
  rw [e] at k2
  exact ⟨s2, e2, k2, dC2_t f2 h2, pFc_trans h3 (pFc_t f2)⟩
theorem u_is {w : Nat} {ws : List Nat} (hw : wOk w ws) (hlet : tLe (ws.getD 0 0) = true) (h : kU s0 j N s) {b : Bool} (ht : tW kTx 231 (kSt j) ws = b) : f_X10_isWord w s = some (aB b) := by
  rw [c_isWord kT_ok h.1 hw hlet, ht]
theorem u_word {w : Nat} {ws : List Nat} (hw : wOk w ws) (hlet : tLe (ws.getD 0 0) = true) (hj : j < 89) (ht : tW kTx 231 (kSt j) ws = true) (h : kU s0 j N s) : ∃ s2, f_X8_takeWord w s = some (1, s2) ∧ kU s0 (j + 1) N s2 := by
  obtain ⟨s2, e2, h2⟩ := u_next hj h
  refine ⟨s2, ?_, h2⟩
  rw [fe_X8_takeWord]; unfold fb_X8_takeWord
  rw [u_is hw hlet h ht, Option.bind_some, if_neg (show ¬ aB true = 0 by decide), e2, Option.bind_some]
theorem u_val (hj : j < 89) (hk : kKd j = 2) (h : kU s0 j N s) : s 45 2 = 2 ∧ s 45 5 = nI (kVl j) := by
  obtain ⟨a1, _, a3, _, a5⟩ := k_tok j hj
  have h2 := h.1.2.2.1
  rw [a1, hk] at h2
  have h5 := h.1.2.2.2.2.2 (by rw [a1, hk])
  rw [a3 hk, Nat.min_eq_left (by omega)] at h5
  exact ⟨h2, h5⟩
theorem u_check (hj : j < 89) (hk : kKd j = 2) (h : kU s0 j N s) {a b : Int32} (ha : ¬ nI (kVl j) < a) (hb : nI (kVl j) ≤ b) : v_X8_checkNumber a b s = (1, s) := by
  obtain ⟨e2, e5⟩ := u_val hj hk h
  rw [ve_X8_checkNumber]; unfold vb_X8_checkNumber
  rw [e2, if_pos rfl, e5, if_neg ha, if_pos hb]
theorem u_num (hj : j < 89) (hk : kKd j = 2) (h : kU s0 j N s) : ∃ s2, f_X8_takeNumber s = some (nI (kVl j), s2) ∧ kU s0 (j + 1) N s2 := by
  obtain ⟨s2, e2, h2⟩ := u_next hj h
  refine ⟨s2, ?_, h2⟩
  rw [fe_X8_takeNumber]; unfold fb_X8_takeNumber
  rw [e2, Option.bind_some, (u_val hj hk h).2]
theorem u_kind (hj : j < 89) (h : kU s0 j N s) : s 45 2 = nI (kKd j) := by rw [h.1.2.2.1, (k_tok j hj).1]
theorem u_semi (hj : j < 89) (hk : kKd j = 3) (h : kU s0 j N s) : ∃ s2, f_X8_takeSemicolon s = some (1, s2) ∧ kU s0 (j + 1) N s2 := by
  obtain ⟨s2, e2, h2⟩ := u_next hj h
  refine ⟨s2, ?_, h2⟩
  have e := u_kind hj h
  rw [hk] at e
  rw [fe_X8_takeSemicolon]; unfold fb_X8_takeSemicolon
  rw [e, if_pos (show nI 3 = 3 from rfl), e2, Option.bind_some]
theorem u_set {i : Nat} (hi : i = 0 ∨ i = 1 ∨ i = 5) (v : Nat) (h : kU s0 j N s) : kU s0 j (nU N i v) (ga_up s 49 i (nI v)) := by
  refine ⟨cK_cong (d_up_ne (by decide)) (d_up_ne (by decide)) h.1, dC2_cnt (by omega) h.2.1 (Or.inr (Or.inr fun a h1 h2 e => ?_)), pFc_trans h.2.2 (pFc_up _ _ _)⟩
  have := gov_no a (by omega) h1
  omega
theorem pS_id {Q : Nat → Nat → Int32} {a k : Nat} {v : Int32} (h : v = Q a k) : pS Q a k v = Q := by
  funext x y
  unfold pS
  split
  · rename_i c; rw [c.1, c.2, h]
  · rfl
/-- the counts: how many of each -/
def nN (l : List Nat) : Nat → Nat := fun k => l.getD k 0
theorem nN_set {i v : Nat} (h : i < l.length) : nU (nN l) i v = nN (l.set i v) := by
  funext k
  unfold nU nN
  by_cases c : k = i
  · rw [if_pos c, c, List.getD_eq_getElem?_getD, List.getElem?_set_self h]; rfl
  · rw [if_neg c, List.getD_eq_getElem?_getD, List.getD_eq_getElem?_getD, List.getElem?_set_ne (fun q => c q.symm)]
theorem u_subject (hB : N 2 < 6) {v : Int32} (hv : v = kQ 1 (N 2)) (h : kU s0 j N s) : kU s0 j (nU N 2 (N 2 + 1)) (v_X7_addSubject_49 v s) := by
  obtain ⟨a, b⟩ := c_addSubject hB h.2.1 v
  rw [pS_id hv] at a
  exact ⟨cK_cong (b 45 (by decide) (by decide)) (b 47 (by decide) (by decide)) h.1, a, pFc_trans h.2.2 fun c _ c2 => b c (by omega) (by omega)⟩
theorem u_room (hB : N 4 < 6) {v : Int32} (hv : v = kQ 4 (N 4)) (h : kU s0 j N s) : kU s0 j (nU N 4 (N 4 + 1)) (v_X7_addRoom_49 v s) := by
  obtain ⟨a, b⟩ := c_addRoom hB h.2.1 v
  rw [pS_id hv] at a
  exact ⟨cK_cong (b 45 (by decide) (by decide)) (b 47 (by decide) (by decide)) h.1, a, pFc_trans h.2.2 fun c _ c2 => b c (by omega) (by omega)⟩
theorem u_teacher (hB : N 3 < 8) {v w : Int32} (hv : v = kQ 2 (N 3)) (hw : w = kQ 3 (N 3)) (h : kU s0 j N s) : kU s0 j (nU N 3 (N 3 + 1)) (v_X7_addTeacher_49 v w s) := by
  obtain ⟨a, b⟩ := c_addTeacher hB h.2.1 v w
  rw [pS_id hv, pS_id hw] at a
  exact ⟨cK_cong (b 45 (by decide) (by decide) (by decide)) (b 47 (by decide) (by decide) (by decide)) h.1, a, pFc_trans h.2.2 fun c _ c2 => b c (by omega) (by omega) (by omega)⟩
theorem u_lesson (hB : N 6 < 40) {x g u v w : Int32} (h7 : x = kQ 7 (N 6)) (h5 : g = kQ 5 (N 6)) (h6 : u = kQ 6 (N 6)) (h8 : v = kQ 8 (N 6)) (h9 : w = kQ 9 (N 6)) (h : kU s0 j N s) : kU s0 j (nU N 6 (N 6 + 1)) (v_X7_addLesson_49 x g u v w s) := by
  obtain ⟨a, b⟩ := c_addLesson hB h.2.1 x g u v w
  unfold qL at a
  rw [pS_id h7, pS_id h5, pS_id h6, pS_id h8, pS_id h9] at a
  exact ⟨cK_cong (b 45 (by decide) (by decide) (by decide) (by decide) (by decide) (by decide)) (b 47 (by decide) (by decide) (by decide) (by decide) (by decide) (by decide)) h.1, a, pFc_trans h.2.2 fun c _ c2 => b c (by omega) (by omega) (by omega) (by omega) (by omega) (by omega)⟩
theorem n10 : ¬ ((1 : Int32) = 0) := by decide
theorem kW : tLe (([103, 114, 105, 100] : List Nat).getD 0 0) = true ∧ tLe (([115, 117, 98, 106, 101, 99, 116] : List Nat).getD 0 0) = true ∧ tLe (([116, 101, 97, 99, 104, 101, 114] : List Nat).getD 0 0) = true ∧ tLe (([114, 111, 111, 109] : List Nat).getD 0 0) = true ∧ tLe (([99, 108, 97, 115, 115, 101, 115] : List Nat).getD 0 0) = true ∧ tLe (([108, 101, 115, 115, 111, 110] : List Nat).getD 0 0) = true := by decide
theorem u_grid (h : kU s0 0 (nN [0, 0, 0, 0, 0, 0, 0]) s) : ∃ s2, f_X8_readGrid s = some (1, s2) ∧ kU s0 4 (nN [2, 3, 0, 0, 0, 0, 0]) s2 := by
  obtain ⟨s1, e1, h1⟩ := u_word w_grid kW.1 (by decide) (by decide +kernel) h
  obtain ⟨s2, e2, h2⟩ := u_num (by decide) (by decide) h1
  have h3 := u_set (i := 0) (by omega) (kVl 1) h2
  obtain ⟨s4, e4, h4⟩ := u_num (by decide) (by decide) h3
  have h5 := u_set (i := 1) (by omega) (kVl 2) h4
  obtain ⟨s6, e6, h6⟩ := u_semi (by decide) (by decide) h5
  refine ⟨s6, ?_, ?_⟩
  · rw [fe_X8_readGrid]; unfold fb_X8_readGrid
    rw [e1, Option.bind_some, if_neg n10]
    dsimp only
    rw [u_check (by decide) (by decide) h1 (by decide) (by decide)]
    dsimp only
    rw [if_neg (by decide), e2, Option.bind_some]
    dsimp only
    rw [u_check (by decide) (by decide) h3 (by decide) (by decide)]
    dsimp only
    rw [if_neg (by decide), e4, Option.bind_some]
    dsimp only
    rw [e6, Option.bind_some]
  · rw [nN_set (by decide), nN_set (by decide)] at h6
    exact h6
theorem u_readSubjects_step {j i : Nat} (hj : j + 2 < 89) (ht : tW kTx 231 (kSt j) [115, 117, 98, 106, 101, 99, 116] = true) (h2 : kKd (j + 1) = 2) (h3 : kKd (j + 2) = 3) (hv : ¬ nI (kVl (j + 1)) < 0 ∧ nI (kVl (j + 1)) ≤ 3) (hi : N 2 = i) (hi6 : i < 6) (hq : nI (kVl (j + 1)) = kQ 1 i) (n : Nat) (h : kU s0 j N s) : ∃ s2, f_X8_readSubjects_h2 (n + 1) (nI i) s = f_X8_readSubjects_h2 n (nI (i + 1)) s2 ∧ kU s0 (j + 3) (nU N 2 (i + 1)) s2 := by
  obtain ⟨s1, e1, h1⟩ := u_word w_subject kW.2.1 (by omega) ht h
  obtain ⟨s2, e2, h2'⟩ := u_num (by omega) h2 h1
  have h3' := u_subject (v := nI (kVl (j + 1))) (by omega) (by rw [hi]; exact hq) h2'
  rw [hi] at h3'
  obtain ⟨s4, e4, h4⟩ := u_semi (by omega) h3 h3'
  refine ⟨s4, ?_, h4⟩
  have ek := u_check (by omega) h2 h1 hv.1 hv.2
  have e0 := u_is w_subject kW.2.1 h ht
  rw [f_X8_readSubjects_h2, if_neg (show ¬ (6 : Int32) < nI i from nI_nlt (a := 6) (by omega) (by omega))]
  by_cases c : nI i = 0
  · rw [if_pos c, if_neg (show ¬ nI i = 6 from fun q => absurd (q.symm.trans c) (by decide)), e1, Option.bind_some, if_neg n10]
    dsimp only
    rw [ek]
    dsimp only
    rw [if_neg (by decide), e2, Option.bind_some]
    dsimp only
    rw [e4, Option.bind_some, if_neg n10, nI_1]
  · rw [if_neg c, e0, Option.bind_some, if_neg (show ¬ aB true = 0 by decide), if_neg (show ¬ nI i = 6 from fun q => by have := (nI_eq (a := i) (b := 6) (by omega) (by omega)).mp q; omega), e1, Option.bind_some, if_neg n10]
    dsimp only
    rw [ek]
    dsimp only
    rw [if_neg (by decide), e2, Option.bind_some]
    dsimp only
    rw [e4, Option.bind_some, if_neg n10, nI_1]
theorem u_readRooms_step {j i : Nat} (hj : j + 2 < 89) (ht : tW kTx 231 (kSt j) [114, 111, 111, 109] = true) (h2 : kKd (j + 1) = 2) (h3 : kKd (j + 2) = 3) (hv : ¬ nI (kVl (j + 1)) < 0 ∧ nI (kVl (j + 1)) ≤ 3) (hi : N 4 = i) (hi6 : i < 6) (hq : nI (kVl (j + 1)) = kQ 4 i) (n : Nat) (h : kU s0 j N s) : ∃ s2, f_X8_readRooms_h2 (n + 1) (nI i) s = f_X8_readRooms_h2 n (nI (i + 1)) s2 ∧ kU s0 (j + 3) (nU N 4 (i + 1)) s2 := by
  obtain ⟨s1, e1, h1⟩ := u_word w_room kW.2.2.2.1 (by omega) ht h
  obtain ⟨s2, e2, h2'⟩ := u_num (by omega) h2 h1
  have h3' := u_room (v := nI (kVl (j + 1))) (by omega) (by rw [hi]; exact hq) h2'
  rw [hi] at h3'
  obtain ⟨s4, e4, h4⟩ := u_semi (by omega) h3 h3'
  refine ⟨s4, ?_, h4⟩
  have ek := u_check (by omega) h2 h1 hv.1 hv.2
  have e0 := u_is w_room kW.2.2.2.1 h ht
  rw [f_X8_readRooms_h2, if_neg (show ¬ (6 : Int32) < nI i from nI_nlt (a := 6) (by omega) (by omega))]
  by_cases c : nI i = 0
  · rw [if_pos c, if_neg (show ¬ nI i = 6 from fun q => absurd (q.symm.trans c) (by decide)), e1, Option.bind_some, if_neg n10]
    dsimp only
    rw [ek]
    dsimp only
    rw [if_neg (by decide), e2, Option.bind_some]
    dsimp only
    rw [e4, Option.bind_some, if_neg n10, nI_1]
  · rw [if_neg c, e0, Option.bind_some, if_neg (show ¬ aB true = 0 by decide), if_neg (show ¬ nI i = 6 from fun q => by have := (nI_eq (a := i) (b := 6) (by omega) (by omega)).mp q; omega), e1, Option.bind_some, if_neg n10]
    dsimp only
    rw [ek]
    dsimp only
    rw [if_neg (by decide), e2, Option.bind_some]
    dsimp only
    rw [e4, Option.bind_some, if_neg n10, nI_1]
theorem u_readSubjects (h : kU s0 4 (nN [2, 3, 0, 0, 0, 0, 0]) s) : ∃ s2, f_X8_readSubjects s = some (1, s2) ∧ kU s0 10 (nN [2, 3, 2, 0, 0, 0, 0]) s2 := by
  obtain ⟨n, hn⟩ : ∃ n, ga_fuel = n + 3 := ⟨ga_fuel - 3, by have := d_fuel (n := 13) (by omega); omega⟩
  obtain ⟨s1, e1, h1⟩ := u_readSubjects_step (j := 4) (i := 0) (by decide) (by decide +kernel) (by decide) (by decide) (by decide) rfl (by decide) (by decide) (n + 2) h
  rw [nN_set (by decide)] at h1
  obtain ⟨s2, e2, h2⟩ := u_readSubjects_step (j := 7) (i := 1) (by decide) (by decide +kernel) (by decide) (by decide) (by decide) rfl (by decide) (by decide) (n + 1) h1
  rw [nN_set (by decide)] at h2
  refine ⟨s2, ?_, h2⟩
  rw [fe_X8_readSubjects]; unfold fb_X8_readSubjects
  rw [hn, show (0 : Int32) = nI 0 from rfl, e1, e2, f_X8_readSubjects_h2, if_neg (by decide), if_neg (by decide), u_is w_subject kW.2.1 h2 (b := false) (by decide +kernel), Option.bind_some, if_pos (show aB false = 0 from rfl)]
theorem u_readTeacher0 (h : kU s0 11 (nN [2, 3, 2, 0, 0, 0, 0]) s) : ∃ s2, f_X8_readTeacher s = some (1, s2) ∧ kU s0 14 (nN [2, 3, 2, 1, 0, 0, 0]) s2 := by
  obtain ⟨n, hn⟩ : ∃ n, ga_fuel = n + 2 := ⟨ga_fuel - 2, by have := d_fuel (n := 12) (by omega); omega⟩
  have k0 : v_X8_checkNumber 0 9 s = (1, s) := u_check (by decide) (by decide) h (by decide) (by decide)
  obtain ⟨s0', e0, h0⟩ := u_num (by decide) (by decide) h
  have c0 : s0' 49 2 = nI 2 := h0.2.1.1 2 (by decide)
  have k1 : v_X8_checkNumber 0 (nI 2 - 1) s0' = (1, s0') := u_check (by decide) (by decide) h0 (by decide) (by decide)
  have v0 : s0' 45 5 = nI 0 := (u_val (by decide) (by decide) h0).2.trans (by decide)
  have b0 : v_X11_hasBit 0 (nI 0) s0' = aB (dHb 0 (nI 0)) := dc_hasBit (by decide)
  have d0 : aB (dHb 0 (nI 0)) = 0 := by decide
  have t0 : s0' 45 2 = 2 := (u_val (by decide) (by decide) h0).1
  obtain ⟨s1', e1, h1⟩ := u_num (by decide) (by decide) h0
  have hk : s1' 45 2 = 3 := (u_kind (j := 13) (by decide) h1).trans (by decide)
  have ha := u_teacher (v := nI (kVl 11)) (w := 1) (by decide) (by decide) (by decide) h1
  rw [nN_set (by decide)] at ha
  obtain ⟨sz, ez, hz⟩ := u_semi (by decide) (by decide) ha
  refine ⟨sz, ?_, hz⟩
  rw [fe_X8_readTeacher]; unfold fb_X8_readTeacher
  rw [k0]
  dsimp only
  rw [if_neg (by decide), e0, Option.bind_some]
  dsimp only
  rw [hn]
  rw [f_X8_readTeacher_h21, if_neg (by decide), if_pos rfl, c0, k1]
  dsimp only
  rw [if_neg (by decide), if_pos (show v_X11_hasBit 0 (s0' 45 5) s0' = 0 from by rw [v0, b0, d0]), e1, Option.bind_some]
  dsimp only
  rw [show ((0 : Int32) ||| (1 <<< (nI (kVl 12) &&& 31))) = 1 from by decide]
  rw [f_X8_readTeacher_h21, if_neg (by decide), if_neg (by decide), hk, if_neg (by decide)]
  dsimp only
  rw [ez, Option.bind_some]
theorem u_readTeacher1 (h : kU s0 15 (nN [2, 3, 2, 1, 0, 0, 0]) s) : ∃ s2, f_X8_readTeacher s = some (1, s2) ∧ kU s0 19 (nN [2, 3, 2, 2, 0, 0, 0]) s2 := by
  obtain ⟨n, hn⟩ : ∃ n, ga_fuel = n + 3 := ⟨ga_fuel - 3, by have := d_fuel (n := 13) (by omega); omega⟩
  have k0 : v_X8_checkNumber 0 9 s = (1, s) := u_check (by decide) (by decide) h (by decide) (by decide)
  obtain ⟨s0', e0, h0⟩ := u_num (by decide) (by decide) h
  have c0 : s0' 49 2 = nI 2 := h0.2.1.1 2 (by decide)
  have k1 : v_X8_checkNumber 0 (nI 2 - 1) s0' = (1, s0') := u_check (by decide) (by decide) h0 (by decide) (by decide)
  have v0 : s0' 45 5 = nI 0 := (u_val (by decide) (by decide) h0).2.trans (by decide)
  have b0 : v_X11_hasBit 0 (nI 0) s0' = aB (dHb 0 (nI 0)) := dc_hasBit (by decide)
  have d0 : aB (dHb 0 (nI 0)) = 0 := by decide
  have t0 : s0' 45 2 = 2 := (u_val (by decide) (by decide) h0).1
  obtain ⟨s1', e1, h1⟩ := u_num (by decide) (by decide) h0
  have c1 : s1' 49 2 = nI 2 := h1.2.1.1 2 (by decide)
  have k2 : v_X8_checkNumber 0 (nI 2 - 1) s1' = (1, s1') := u_check (by decide) (by decide) h1 (by decide) (by decide)
  have v1 : s1' 45 5 = nI 1 := (u_val (by decide) (by decide) h1).2.trans (by decide)
  have b1 : v_X11_hasBit 1 (nI 1) s1' = aB (dHb 1 (nI 1)) := dc_hasBit (by decide)
  have d1 : aB (dHb 1 (nI 1)) = 0 := by decide
  have t1 : s1' 45 2 = 2 := (u_val (by decide) (by decide) h1).1
  obtain ⟨s2', e2, h2⟩ := u_num (by decide) (by decide) h1
  have hk : s2' 45 2 = 3 := (u_kind (j := 18) (by decide) h2).trans (by decide)
  have ha := u_teacher (v := nI (kVl 15)) (w := 3) (by decide) (by decide) (by decide) h2
  rw [nN_set (by decide)] at ha
  obtain ⟨sz, ez, hz⟩ := u_semi (by decide) (by decide) ha
  refine ⟨sz, ?_, hz⟩
  rw [fe_X8_readTeacher]; unfold fb_X8_readTeacher
  rw [k0]
  dsimp only
  rw [if_neg (by decide), e0, Option.bind_some]
  dsimp only
  rw [hn]
  rw [f_X8_readTeacher_h21, if_neg (by decide), if_pos rfl, c0, k1]
  dsimp only
  rw [if_neg (by decide), if_pos (show v_X11_hasBit 0 (s0' 45 5) s0' = 0 from by rw [v0, b0, d0]), e1, Option.bind_some]
  dsimp only
  rw [show ((0 : Int32) ||| (1 <<< (nI (kVl 16) &&& 31))) = 1 from by decide]
  rw [f_X8_readTeacher_h21, if_neg (by decide), if_neg (by decide), t1, if_pos rfl, c1, k2]
  dsimp only
  rw [if_neg (by decide), if_pos (show v_X11_hasBit 1 (s1' 45 5) s1' = 0 from by rw [v1, b1, d1]), e2, Option.bind_some]
  dsimp only
  rw [show ((1 : Int32) ||| (1 <<< (nI (kVl 17) &&& 31))) = 3 from by decide]
  rw [f_X8_readTeacher_h21, if_neg (by decide), if_neg (by decide), hk, if_neg (by decide)]
  dsimp only
  rw [ez, Option.bind_some]
theorem u_readTeacher2 (h : kU s0 20 (nN [2, 3, 2, 2, 0, 0, 0]) s) : ∃ s2, f_X8_readTeacher s = some (1, s2) ∧ kU s0 23 (nN [2, 3, 2, 3, 0, 0, 0]) s2 := by
  obtain ⟨n, hn⟩ : ∃ n, ga_fuel = n + 2 := ⟨ga_fuel - 2, by have := d_fuel (n := 12) (by omega); omega⟩
  have k0 : v_X8_checkNumber 0 9 s = (1, s) := u_check (by decide) (by decide) h (by decide) (by decide)
  obtain ⟨s0', e0, h0⟩ := u_num (by decide) (by decide) h
  have c0 : s0' 49 2 = nI 2 := h0.2.1.1 2 (by decide)
  have k1 : v_X8_checkNumber 0 (nI 2 - 1) s0' = (1, s0') := u_check (by decide) (by decide) h0 (by decide) (by decide)
  have v0 : s0' 45 5 = nI 1 := (u_val (by decide) (by decide) h0).2.trans (by decide)
  have b0 : v_X11_hasBit 0 (nI 1) s0' = aB (dHb 0 (nI 1)) := dc_hasBit (by decide)
  have d0 : aB (dHb 0 (nI 1)) = 0 := by decide
  have t0 : s0' 45 2 = 2 := (u_val (by decide) (by decide) h0).1
  obtain ⟨s1', e1, h1⟩ := u_num (by decide) (by decide) h0
  have hk : s1' 45 2 = 3 := (u_kind (j := 22) (by decide) h1).trans (by decide)
  have ha := u_teacher (v := nI (kVl 20)) (w := 2) (by decide) (by decide) (by decide) h1
  rw [nN_set (by decide)] at ha
  obtain ⟨sz, ez, hz⟩ := u_semi (by decide) (by decide) ha
  refine ⟨sz, ?_, hz⟩
  rw [fe_X8_readTeacher]; unfold fb_X8_readTeacher
  rw [k0]
  dsimp only
  rw [if_neg (by decide), e0, Option.bind_some]
  dsimp only
  rw [hn]
  rw [f_X8_readTeacher_h21, if_neg (by decide), if_pos rfl, c0, k1]
  dsimp only
  rw [if_neg (by decide), if_pos (show v_X11_hasBit 0 (s0' 45 5) s0' = 0 from by rw [v0, b0, d0]), e1, Option.bind_some]
  dsimp only
  rw [show ((0 : Int32) ||| (1 <<< (nI (kVl 21) &&& 31))) = 2 from by decide]
  rw [f_X8_readTeacher_h21, if_neg (by decide), if_neg (by decide), hk, if_neg (by decide)]
  dsimp only
  rw [ez, Option.bind_some]
theorem u_readTeacher3 (h : kU s0 24 (nN [2, 3, 2, 3, 0, 0, 0]) s) : ∃ s2, f_X8_readTeacher s = some (1, s2) ∧ kU s0 28 (nN [2, 3, 2, 4, 0, 0, 0]) s2 := by
  obtain ⟨n, hn⟩ : ∃ n, ga_fuel = n + 3 := ⟨ga_fuel - 3, by have := d_fuel (n := 13) (by omega); omega⟩
  have k0 : v_X8_checkNumber 0 9 s = (1, s) := u_check (by decide) (by decide) h (by decide) (by decide)
  obtain ⟨s0', e0, h0⟩ := u_num (by decide) (by decide) h
  have c0 : s0' 49 2 = nI 2 := h0.2.1.1 2 (by decide)
  have k1 : v_X8_checkNumber 0 (nI 2 - 1) s0' = (1, s0') := u_check (by decide) (by decide) h0 (by decide) (by decide)
  have v0 : s0' 45 5 = nI 0 := (u_val (by decide) (by decide) h0).2.trans (by decide)
  have b0 : v_X11_hasBit 0 (nI 0) s0' = aB (dHb 0 (nI 0)) := dc_hasBit (by decide)
  have d0 : aB (dHb 0 (nI 0)) = 0 := by decide
  have t0 : s0' 45 2 = 2 := (u_val (by decide) (by decide) h0).1
  obtain ⟨s1', e1, h1⟩ := u_num (by decide) (by decide) h0
  have c1 : s1' 49 2 = nI 2 := h1.2.1.1 2 (by decide)
  have k2 : v_X8_checkNumber 0 (nI 2 - 1) s1' = (1, s1') := u_check (by decide) (by decide) h1 (by decide) (by decide)
  have v1 : s1' 45 5 = nI 1 := (u_val (by decide) (by decide) h1).2.trans (by decide)
  have b1 : v_X11_hasBit 1 (nI 1) s1' = aB (dHb 1 (nI 1)) := dc_hasBit (by decide)
  have d1 : aB (dHb 1 (nI 1)) = 0 := by decide
  have t1 : s1' 45 2 = 2 := (u_val (by decide) (by decide) h1).1
  obtain ⟨s2', e2, h2⟩ := u_num (by decide) (by decide) h1
  have hk : s2' 45 2 = 3 := (u_kind (j := 27) (by decide) h2).trans (by decide)
  have ha := u_teacher (v := nI (kVl 24)) (w := 3) (by decide) (by decide) (by decide) h2
  rw [nN_set (by decide)] at ha
  obtain ⟨sz, ez, hz⟩ := u_semi (by decide) (by decide) ha
  refine ⟨sz, ?_, hz⟩
  rw [fe_X8_readTeacher]; unfold fb_X8_readTeacher
  rw [k0]
  dsimp only
  rw [if_neg (by decide), e0, Option.bind_some]
  dsimp only
  rw [hn]
  rw [f_X8_readTeacher_h21, if_neg (by decide), if_pos rfl, c0, k1]
  dsimp only
  rw [if_neg (by decide), if_pos (show v_X11_hasBit 0 (s0' 45 5) s0' = 0 from by rw [v0, b0, d0]), e1, Option.bind_some]
  dsimp only
  rw [show ((0 : Int32) ||| (1 <<< (nI (kVl 25) &&& 31))) = 1 from by decide]
  rw [f_X8_readTeacher_h21, if_neg (by decide), if_neg (by decide), t1, if_pos rfl, c1, k2]
  dsimp only
  rw [if_neg (by decide), if_pos (show v_X11_hasBit 1 (s1' 45 5) s1' = 0 from by rw [v1, b1, d1]), e2, Option.bind_some]
  dsimp only
  rw [show ((1 : Int32) ||| (1 <<< (nI (kVl 26) &&& 31))) = 3 from by decide]
  rw [f_X8_readTeacher_h21, if_neg (by decide), if_neg (by decide), hk, if_neg (by decide)]
  dsimp only
  rw [ez, Option.bind_some]
theorem u_readTeachers (h : kU s0 10 (nN [2, 3, 2, 0, 0, 0, 0]) s) : ∃ s2, f_X8_readTeachers s = some (1, s2) ∧ kU s0 28 (nN [2, 3, 2, 4, 0, 0, 0]) s2 := by
  obtain ⟨n, hn⟩ : ∃ n, ga_fuel = n + 5 := ⟨ga_fuel - 5, by have := d_fuel (n := 15) (by omega); omega⟩
  have w0 := u_is w_teacher kW.2.2.1 h (b := true) (by decide +kernel)
  obtain ⟨a0, x0, g0⟩ := u_word w_teacher kW.2.2.1 (by decide) (by decide +kernel) h
  obtain ⟨b0, y0, h0⟩ := u_readTeacher0 g0
  have w1 := u_is w_teacher kW.2.2.1 h0 (b := true) (by decide +kernel)
  obtain ⟨a1, x1, g1⟩ := u_word w_teacher kW.2.2.1 (by decide) (by decide +kernel) h0
  obtain ⟨b1, y1, h1⟩ := u_readTeacher1 g1
  have w2 := u_is w_teacher kW.2.2.1 h1 (b := true) (by decide +kernel)
  obtain ⟨a2, x2, g2⟩ := u_word w_teacher kW.2.2.1 (by decide) (by decide +kernel) h1
  obtain ⟨b2, y2, h2⟩ := u_readTeacher2 g2
  have w3 := u_is w_teacher kW.2.2.1 h2 (b := true) (by decide +kernel)
  obtain ⟨a3, x3, g3⟩ := u_word w_teacher kW.2.2.1 (by decide) (by decide +kernel) h2
  obtain ⟨b3, y3, h3⟩ := u_readTeacher3 g3
  have wz := u_is w_teacher kW.2.2.1 h3 (b := false) (by decide +kernel)
  refine ⟨b3, ?_, h3⟩
  rw [fe_X8_readTeachers]; unfold fb_X8_readTeachers
  rw [hn]
  rw [f_X8_readTeachers_h2, if_neg (by decide), if_pos rfl, if_neg (by decide), x0, Option.bind_some, if_neg n10, y0, Option.bind_some, if_neg n10]
  dsimp only
  rw [f_X8_readTeachers_h2, if_neg (by decide), if_neg (by decide), w1, Option.bind_some, if_neg (by decide), if_neg (by decide), x1, Option.bind_some, if_neg n10, y1, Option.bind_some, if_neg n10]
  dsimp only
  rw [f_X8_readTeachers_h2, if_neg (by decide), if_neg (by decide), w2, Option.bind_some, if_neg (by decide), if_neg (by decide), x2, Option.bind_some, if_neg n10, y2, Option.bind_some, if_neg n10]
  dsimp only
  rw [f_X8_readTeachers_h2, if_neg (by decide), if_neg (by decide), w3, Option.bind_some, if_neg (by decide), if_neg (by decide), x3, Option.bind_some, if_neg n10, y3, Option.bind_some, if_neg n10]
  dsimp only
  rw [f_X8_readTeachers_h2, if_neg (by decide), if_neg (by decide), wz, Option.bind_some, if_pos (show aB false = 0 from rfl)]
theorem u_readRooms (h : kU s0 28 (nN [2, 3, 2, 4, 0, 0, 0]) s) : ∃ s2, f_X8_readRooms s = some (1, s2) ∧ kU s0 37 (nN [2, 3, 2, 4, 3, 0, 0]) s2 := by
  obtain ⟨n, hn⟩ : ∃ n, ga_fuel = n + 4 := ⟨ga_fuel - 4, by have := d_fuel (n := 14) (by omega); omega⟩
  obtain ⟨s1, e1, h1⟩ := u_readRooms_step (j := 28) (i := 0) (by decide) (by decide +kernel) (by decide) (by decide) (by decide) rfl (by decide) (by decide) (n + 3) h
  rw [nN_set (by decide)] at h1
  obtain ⟨s2, e2, h2⟩ := u_readRooms_step (j := 31) (i := 1) (by decide) (by decide +kernel) (by decide) (by decide) (by decide) rfl (by decide) (by decide) (n + 2) h1
  rw [nN_set (by decide)] at h2
  obtain ⟨s3, e3, h3⟩ := u_readRooms_step (j := 34) (i := 2) (by decide) (by decide +kernel) (by decide) (by decide) (by decide) rfl (by decide) (by decide) (n + 1) h2
  rw [nN_set (by decide)] at h3
  refine ⟨s3, ?_, h3⟩
  rw [fe_X8_readRooms]; unfold fb_X8_readRooms
  rw [hn, show (0 : Int32) = nI 0 from rfl, e1, e2, e3, f_X8_readRooms_h2, if_neg (by decide), if_neg (by decide), u_is w_room kW.2.2.2.1 h3 (b := false) (by decide +kernel), Option.bind_some, if_pos (show aB false = 0 from rfl)]
theorem u_readClasses (h : kU s0 37 (nN [2, 3, 2, 4, 3, 0, 0]) s) : ∃ s2, f_X8_readClasses s = some (1, s2) ∧ kU s0 40 (nN [2, 3, 2, 4, 3, 2, 0]) s2 := by
  obtain ⟨s1, e1, h1⟩ := u_word w_classes kW.2.2.2.2.1 (by decide) (by decide +kernel) h
  obtain ⟨s2, e2, h2⟩ := u_num (by decide) (by decide) h1
  have h3 := u_set (i := 5) (by omega) (kVl 38) h2
  obtain ⟨s6, e6, h6⟩ := u_semi (by decide) (by decide) h3
  refine ⟨s6, ?_, ?_⟩
  · rw [fe_X8_readClasses]; unfold fb_X8_readClasses
    rw [e1, Option.bind_some, if_neg n10]
    dsimp only
    rw [u_check (by decide) (by decide) h1 (by decide) (by decide)]
    dsimp only
    rw [if_neg (by decide), e2, Option.bind_some]
    dsimp only
    rw [e6, Option.bind_some]
  · rw [nN_set (by decide)] at h6
    exact h6
theorem u_readLesson {j i : Nat} (hj : j + 5 < 89) (hN : N 0 = 2 ∧ N 1 = 3 ∧ N 2 = 2 ∧ N 3 = 4 ∧ N 4 = 3 ∧ N 5 = 2 ∧ N 6 = i) (hi : i < 7) (hk : kKd j = 2 ∧ kKd (j + 1) = 2 ∧ kKd (j + 2) = 2 ∧ kKd (j + 3) = 2 ∧ kKd (j + 4) = 2 ∧ kKd (j + 5) = 3)
    (hv : kVl j < 6 ∧ kVl (j + 1) < 2 ∧ kVl (j + 2) < 2 ∧ kVl (j + 3) < 4 ∧ kVl (j + 4) < 3)
    (hq : nI (kVl j) = kQ 7 i ∧ nI (kVl (j + 1)) = kQ 5 i ∧ nI (kVl (j + 2)) = kQ 6 i ∧ nI (kVl (j + 3)) = kQ 8 i ∧ nI (kVl (j + 4)) = kQ 9 i)
    (ht : (∀ k, k < i → ¬ (kQ 7 k = kQ 7 i ∧ kQ 5 k = kQ 5 i)) ∧ (∀ k, k < i → ¬ (kQ 7 k = kQ 7 i ∧ kQ 8 k = kQ 8 i)) ∧ (∀ k, k < i → ¬ (kQ 7 k = kQ 7 i ∧ kQ 9 k = kQ 9 i)))
    (hu : dHb (kQ 3 (kVl (j + 3))) (nI (kVl (j + 2))) = true) (hr : kQ 4 (kVl (j + 4)) = kQ 1 (kVl (j + 2))) (h : kU s0 j N s) :
    ∃ s2, f_X8_readLesson s = some (1, s2) ∧ kU s0 (j + 6) (nU N 6 (i + 1)) s2 := by
  obtain ⟨n0, n1, n2, n3, n4, n5, n6⟩ := hN
  obtain ⟨k0, k1, k2, k3, k4, k5⟩ := hk
  obtain ⟨v0, v1, v2, v3, v4⟩ := hv
  obtain ⟨q7, q5, q6, q8, q9⟩ := hq
  obtain ⟨t5, t8, t9⟩ := ht
  obtain ⟨s1, e1, h1⟩ := u_num (by omega) k0 h
  obtain ⟨s2, e2, h2⟩ := u_num (by omega) k1 h1
  obtain ⟨s3, e3, h3⟩ := u_num (by omega) k2 h2
  obtain ⟨s4, e4, h4⟩ := u_num (by omega) k3 h3
  obtain ⟨s5, e5, h5⟩ := u_num (by omega) k4 h4
  have ha := u_lesson (by omega) (x := nI (kVl j)) (g := nI (kVl (j + 1))) (u := nI (kVl (j + 2))) (v := nI (kVl (j + 3))) (w := nI (kVl (j + 4))) (by rw [n6]; exact q7) (by rw [n6]; exact q5) (by rw [n6]; exact q6) (by rw [n6]; exact q8) (by rw [n6]; exact q9) h5
  rw [n6] at ha
  obtain ⟨s6, e6, h6⟩ := u_semi (by omega) k5 ha
  have no : ∀ a, (∀ k, k < i → ¬ (kQ 7 k = kQ 7 i ∧ kQ a k = kQ a i)) → tkn N kQ a (kQ 7 i) (kQ a i) = false := by
    intro a hno
    unfold tkn
    refine decide_eq_false ?_
    rintro ⟨k, hk, e⟩
    exact hno k (by omega) e
  have z : ∀ {a b : Nat}, a < b → b ≤ 10 → ¬ nI a < 0 ∧ nI a ≤ nI b - 1 := by
    intro a b ha hb
    refine ⟨nI_pos (by omega), ?_⟩
    rw [show nI b - 1 = nI (b - 1) from pk_sub (a := b) (b := 1) (by omega)]
    exact nI_le (by omega) (by omega)
  have w0 : v_X8_checkNumber 0 (nI 6 - 1) s = (1, s) := u_check (by omega) k0 h (z v0 (by omega)).1 (z v0 (by omega)).2
  have w1 : v_X8_checkNumber 0 (nI 2 - 1) s1 = (1, s1) := u_check (by omega) k1 h1 (z v1 (by omega)).1 (z v1 (by omega)).2
  have w2 : v_X8_checkNumber 0 (nI 2 - 1) s2 = (1, s2) := u_check (by omega) k2 h2 (z v2 (by omega)).1 (z v2 (by omega)).2
  have w3 : v_X8_checkNumber 0 (nI 4 - 1) s3 = (1, s3) := u_check (by omega) k3 h3 (z v3 (by omega)).1 (z v3 (by omega)).2
  have w4 : v_X8_checkNumber 0 (nI 3 - 1) s4 = (1, s4) := u_check (by omega) k4 h4 (z v4 (by omega)).1 (z v4 (by omega)).2
  have y0 : v_X7_slots_49 s = nI 6 := by
    rw [ve_X7_slots_49]; unfold vb_X7_slots_49
    rw [h.2.1.1 0 (by omega), h.2.1.1 1 (by omega), n0, n1]
    rfl
  have y1 : s1 49 5 = nI 2 := by rw [h1.2.1.1 5 (by omega), n5]
  have y2 : s2 49 2 = nI 2 := by rw [h2.2.1.1 2 (by omega), n2]
  have y3 : s3 49 3 = nI 4 := by rw [h3.2.1.1 3 (by omega), n3]
  have y4 : s4 49 4 = nI 3 := by rw [h4.2.1.1 4 (by omega), n4]
  have x1 : s1 45 5 = nI (kVl (j + 1)) := (u_val (by omega) k1 h1).2
  have x3 : s3 45 5 = nI (kVl (j + 3)) := (u_val (by omega) k3 h3).2
  have x4 : s4 45 5 = nI (kVl (j + 4)) := (u_val (by omega) k4 h4).2
  have o1 : f_X7_isTakenAtFirst_49_58 (nI (kVl j)) (nI (kVl (j + 1))) s1 = some 0 := by
    rw [c_taken_58 (by omega) h1.2.1, q7, q5, no 5 t5]; rfl
  have o3 : f_X7_isTakenAtFirst_49_64 (nI (kVl j)) (nI (kVl (j + 3))) s3 = some 0 := by
    rw [c_taken_64 (by omega) h3.2.1, q7, q8, no 8 t8]; rfl
  have o4 : f_X7_isTakenAtFirst_49_66 (nI (kVl j)) (nI (kVl (j + 4))) s4 = some 0 := by
    rw [c_taken_66 (by omega) h4.2.1, q7, q9, no 9 t9]; rfl
  have g1 : f_X8_checkUntaken_58 (nI (kVl j)) (nI 2) s1 = some (1, s1) := by
    rw [fe_X8_checkUntaken_58]; unfold fb_X8_checkUntaken_58
    rw [w1]
    dsimp only
    rw [if_neg (by decide), x1, o1, Option.bind_some, if_pos rfl]
  have g3 : f_X8_checkUntaken_64 (nI (kVl j)) (nI 4) s3 = some (1, s3) := by
    rw [fe_X8_checkUntaken_64]; unfold fb_X8_checkUntaken_64
    rw [w3]
    dsimp only
    rw [if_neg (by decide), x3, o3, Option.bind_some, if_pos rfl]
  have g4 : f_X8_checkUntaken_66 (nI (kVl j)) (nI 3) s4 = some (1, s4) := by
    rw [fe_X8_checkUntaken_66]; unfold fb_X8_checkUntaken_66
    rw [w4]
    dsimp only
    rw [if_neg (by decide), x4, o4, Option.bind_some, if_pos rfl]
  have p3 : v_X7_isQualified_49 (nI (kVl (j + 3))) (nI (kVl (j + 2))) s3 = 1 := by
    have a1 : v_X7_hasTeacher_49 (nI (kVl (j + 3))) s3 = 1 := by
      rw [ve_X7_hasTeacher_49]; unfold vb_X7_hasTeacher_49
      rw [if_neg (nI_pos (by omega)), y3, if_neg (nI_ge v3 (by omega))]
    have a2 : ga_at 55 8 (nI (kVl (j + 3))) s3 = kQ 3 (kVl (j + 3)) := by
      rw [d_at (by omega) (by omega)]
      exact h3.2.1.2 3 (by omega) (by omega) _ (by show _ < N 3; omega)
    rw [ve_X7_isQualified_49]; unfold vb_X7_isQualified_49
    rw [a1, if_neg (by decide), a2, dc_hasBit (by omega), hu, if_neg (by decide)]
  have p4 : ga_at 57 6 (nI (kVl (j + 4))) s4 = ga_at 51 6 (nI (kVl (j + 2))) s4 := by
    rw [d_at (by omega) (by omega), d_at (by omega) (by omega), show s4 57 (kVl (j + 4)) = kQ 4 (kVl (j + 4)) from h4.2.1.2 4 (by omega) (by omega) _ (by show _ < N 4; omega), show s4 51 (kVl (j + 2)) = kQ 1 (kVl (j + 2)) from h4.2.1.2 1 (by omega) (by omega) _ (by show _ < N 2; omega)]
    exact hr
  refine ⟨s6, ?_, h6⟩
  rw [fe_X8_readLesson]; unfold fb_X8_readLesson
  rw [y0, w0]
  dsimp only
  rw [if_neg (by decide), e1, Option.bind_some]
  dsimp only
  rw [y1, g1, Option.bind_some, if_neg n10]
  dsimp only
  rw [fe_X8_readLesson_j48]; unfold fb_X8_readLesson_j48
  rw [e2, Option.bind_some]
  dsimp only
  rw [y2, w2]
  dsimp only
  rw [if_neg (by decide), e3, Option.bind_some]
  dsimp only
  rw [y3, g3, Option.bind_some, if_neg n10]
  dsimp only
  rw [fe_X8_readLesson_j101]; unfold fb_X8_readLesson_j101
  rw [x3, p3, if_neg (by decide), e4, Option.bind_some]
  dsimp only
  rw [y4, g4, Option.bind_some, if_neg n10]
  dsimp only
  rw [fe_X8_readLesson_j155]; unfold fb_X8_readLesson_j155
  rw [x4, if_pos p4, e5, Option.bind_some]
  dsimp only
  rw [e6, Option.bind_some]
theorem u_readLessons (h : kU s0 40 (nN [2, 3, 2, 4, 3, 2, 0]) s) : ∃ s2, f_X8_readLessons s = some (1, s2) ∧ kU s0 89 (nN [2, 3, 2, 4, 3, 2, 7]) s2 := by
  obtain ⟨n, hn⟩ : ∃ n, ga_fuel = n + 8 := ⟨ga_fuel - 8, by have := d_fuel (n := 18) (by omega); omega⟩
  have w0 := u_is w_lesson kW.2.2.2.2.2 h (b := true) (by decide +kernel)
  obtain ⟨a0, x0, g0⟩ := u_next (by decide) h
  obtain ⟨b0, y0, h0⟩ := u_readLesson (j := 41) (i := 0) (by decide) (by decide) (by decide) (by decide) (by decide) (by decide) (by decide) (by decide) (by decide) g0
  rw [nN_set (by decide)] at h0
  have w1 := u_is w_lesson kW.2.2.2.2.2 h0 (b := true) (by decide +kernel)
  obtain ⟨a1, x1, g1⟩ := u_next (by decide) h0
  obtain ⟨b1, y1, h1⟩ := u_readLesson (j := 48) (i := 1) (by decide) (by decide) (by decide) (by decide) (by decide) (by decide) (by decide) (by decide) (by decide) g1
  rw [nN_set (by decide)] at h1
  have w2 := u_is w_lesson kW.2.2.2.2.2 h1 (b := true) (by decide +kernel)
  obtain ⟨a2, x2, g2⟩ := u_next (by decide) h1
  obtain ⟨b2, y2, h2⟩ := u_readLesson (j := 55) (i := 2) (by decide) (by decide) (by decide) (by decide) (by decide) (by decide) (by decide) (by decide) (by decide) g2
  rw [nN_set (by decide)] at h2
  have w3 := u_is w_lesson kW.2.2.2.2.2 h2 (b := true) (by decide +kernel)
  obtain ⟨a3, x3, g3⟩ := u_next (by decide) h2
  obtain ⟨b3, y3, h3⟩ := u_readLesson (j := 62) (i := 3) (by decide) (by decide) (by decide) (by decide) (by decide) (by decide) (by decide) (by decide) (by decide) g3
  rw [nN_set (by decide)] at h3
  have w4 := u_is w_lesson kW.2.2.2.2.2 h3 (b := true) (by decide +kernel)
  obtain ⟨a4, x4, g4⟩ := u_next (by decide) h3
  obtain ⟨b4, y4, h4⟩ := u_readLesson (j := 69) (i := 4) (by decide) (by decide) (by decide) (by decide) (by decide) (by decide) (by decide) (by decide) (by decide) g4
  rw [nN_set (by decide)] at h4
  have w5 := u_is w_lesson kW.2.2.2.2.2 h4 (b := true) (by decide +kernel)
  obtain ⟨a5, x5, g5⟩ := u_next (by decide) h4
  obtain ⟨b5, y5, h5⟩ := u_readLesson (j := 76) (i := 5) (by decide) (by decide) (by decide) (by decide) (by decide) (by decide) (by decide) (by decide) (by decide) g5
  rw [nN_set (by decide)] at h5
  have w6 := u_is w_lesson kW.2.2.2.2.2 h5 (b := true) (by decide +kernel)
  obtain ⟨a6, x6, g6⟩ := u_next (by decide) h5
  obtain ⟨b6, y6, h6⟩ := u_readLesson (j := 83) (i := 6) (by decide) (by decide) (by decide) (by decide) (by decide) (by decide) (by decide) (by decide) (by decide) g6
  rw [nN_set (by decide)] at h6
  have wz := u_is w_lesson kW.2.2.2.2.2 h6 (b := false) (by decide +kernel)
  have kz : b6 45 2 = 0 := by rw [h6.1.2.2.1, show tK kTx 231 (kSt 89) = 0 from by decide +kernel]; rfl
  refine ⟨b6, ?_, h6⟩
  rw [fe_X8_readLessons]; unfold fb_X8_readLessons
  rw [hn]
  rw [f_X8_readLessons_h2, if_neg (by decide), w0, Option.bind_some, if_neg (by decide), if_neg (by decide), x0, Option.bind_some, y0, Option.bind_some, if_neg n10]
  dsimp only
  rw [f_X8_readLessons_h2, if_neg (by decide), w1, Option.bind_some, if_neg (by decide), if_neg (by decide), x1, Option.bind_some, y1, Option.bind_some, if_neg n10]
  dsimp only
  rw [f_X8_readLessons_h2, if_neg (by decide), w2, Option.bind_some, if_neg (by decide), if_neg (by decide), x2, Option.bind_some, y2, Option.bind_some, if_neg n10]
  dsimp only
  rw [f_X8_readLessons_h2, if_neg (by decide), w3, Option.bind_some, if_neg (by decide), if_neg (by decide), x3, Option.bind_some, y3, Option.bind_some, if_neg n10]
  dsimp only
  rw [f_X8_readLessons_h2, if_neg (by decide), w4, Option.bind_some, if_neg (by decide), if_neg (by decide), x4, Option.bind_some, y4, Option.bind_some, if_neg n10]
  dsimp only
  rw [f_X8_readLessons_h2, if_neg (by decide), w5, Option.bind_some, if_neg (by decide), if_neg (by decide), x5, Option.bind_some, y5, Option.bind_some, if_neg n10]
  dsimp only
  rw [f_X8_readLessons_h2, if_neg (by decide), w6, Option.bind_some, if_neg (by decide), if_neg (by decide), x6, Option.bind_some, y6, Option.bind_some, if_neg n10]
  dsimp only
  rw [f_X8_readLessons_h2, if_neg (by decide), wz, Option.bind_some, if_pos (show aB false = 0 from rfl), kz, if_pos rfl]
theorem u_read (h : cX kTx 231 s) : ∃ s2, f_X8_read s = some (1, s2) ∧ dC2 49 kN kQ s2 ∧ pFc s s2 := by
  have a0 := c_emptyS (Q := kQ) s
  have hX : cX kTx 231 (v_X7_becomeEmpty_49 s) := by
    unfold cX
    rw [a0.2 45 (by decide), a0.2 47 (by decide)]; exact h
  obtain ⟨s1, e1, k1, f1, _⟩ := c_start kT_ok hX
  rw [k_tok0] at k1
  have h1 : kU s 0 (nN [0, 0, 0, 0, 0, 0, 0]) s1 := by
    refine ⟨k1, ?_, pFc_trans (fun c _ c2 => a0.2 c (by omega)) (pFc_t f1)⟩
    have := dC2_t f1 a0.1
    have e : nN [0, 0, 0, 0, 0, 0, 0] = fun _ => 0 := by
      funext k
      match k with
      | 0 => rfl
      | 1 => rfl
      | 2 => rfl
      | 3 => rfl
      | 4 => rfl
      | 5 => rfl
      | 6 => rfl
      | k + 7 => rfl
    rw [e]; exact this
  obtain ⟨s2, e2, h2⟩ := u_grid h1
  obtain ⟨s3, e3, h3⟩ := u_readSubjects h2
  obtain ⟨s4, e4, h4⟩ := u_readTeachers h3
  obtain ⟨s5, e5, h5⟩ := u_readRooms h4
  obtain ⟨s6, e6, h6⟩ := u_readClasses h5
  obtain ⟨s7, e7, h7⟩ := u_readLessons h6
  refine ⟨s7, ?_, h7.2.1, h7.2.2⟩
  rw [fe_X8_read]; unfold fb_X8_read
  dsimp only
  rw [e1, Option.bind_some, e2, Option.bind_some, if_neg n10, e3, Option.bind_some, if_neg n10, e4, Option.bind_some, if_neg n10, e5, Option.bind_some, if_neg n10, e6, Option.bind_some, if_neg n10, e7, Option.bind_some, if_neg n10]
theorem u_parse (h : cX kTx 231 s) : ∃ s2, f_X11_parseSchool s = some (7, s2) ∧ dC kN kQ (dP0 kQ) s2 ∧ s2 42 3 = 0 ∧ s2 42 2 = s 42 2 := by
  obtain ⟨s1, e1, h1, f1⟩ := u_read h
  have h2 : dC2 49 kN kQ (ga_up s1 45 1 0) := by
    unfold dC2
    simp only [d_up_ne (show 49 ≠ 45 by decide)]
    refine ⟨h1.1, fun a h3 h4 k hk => ?_⟩
    rw [d_up_ne (by omega)]; exact h1.2 a h3 h4 k hk
  obtain ⟨s2, e2, _, c2, d2, f2⟩ := c_take kN_ok kQ_ok h2
  refine ⟨s2, ?_, c2, d2, by rw [f2, d_up_ne (by decide), f1 42 (by decide) (by decide)]⟩
  rw [fe_X11_parseSchool]; unfold fb_X11_parseSchool
  rw [e1, Option.bind_some]
  dsimp only
  rw [if_neg (by decide)]
  exact e2
end E10
