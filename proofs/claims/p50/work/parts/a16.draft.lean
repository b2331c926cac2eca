section D46
/-! ===== the draft of a school ===== -/
variable {N : Nat → Nat} {Q : Nat → Nat → Int32} {s t : ga_M}
def gov (a : Nat) : Nat := if a = 1 then 2 else if a ≤ 3 then 3 else if a = 4 then 4 else 6
def off (a : Nat) : Nat := if a = 1 then 7 else if a = 2 then 13 else if a = 3 then 21 else if a = 4 then 29 else if a = 5 then 35 else if a = 6 then 75 else if a = 7 then 115 else if a = 8 then 155 else 195
def cap (a : Nat) : Nat := if a = 1 then 6 else if a ≤ 3 then 8 else if a = 4 then 6 else 40
def dBd (N : Nat → Nat) : Prop := N 2 ≤ 6 ∧ N 3 ≤ 8 ∧ N 4 ≤ 6 ∧ N 6 ≤ 40
theorem off_lt : ∀ a, a < 10 → ∀ i, i < 10 → 1 ≤ a → a < i → off a + cap a ≤ off i := by decide
theorem off_cap : ∀ a, a < 10 → 1 ≤ a → off a + cap a ≤ 235 ∧ 7 ≤ off a := by decide
theorem off_ne {a i j k : Nat} (ha : 1 ≤ a) (ha9 : a ≤ 9) (hi : 1 ≤ i) (hi9 : i ≤ 9) (hj : j < cap a) (hk : k < cap i) (h : ¬ (a = i ∧ j = k)) : off a + j ≠ off i + k := by
  by_cases e : a = i
  · subst e; omega
  · by_cases l : a < i
    · have := off_lt a (by omega) i (by omega) ha l; omega
    · have := off_lt i (by omega) a (by omega) hi (by omega); omega
theorem gov_cap (h : dBd N) (a : Nat) : N (gov a) ≤ cap a := by
  obtain ⟨h2, h3, h4, h6⟩ := h
  unfold gov cap
  by_cases c1 : a = 1
  · rw [if_pos c1, if_pos c1]; exact h2
  · rw [if_neg c1, if_neg c1]
    by_cases c2 : a ≤ 3
    · rw [if_pos c2, if_pos c2]; exact h3
    · rw [if_neg c2, if_neg c2]
      by_cases c3 : a = 4
      · rw [if_pos c3, if_pos c3]; exact h4
      · rw [if_neg c3, if_neg c3]; exact h6
def dC2 (c : Nat) (N : Nat → Nat) (Q : Nat → Nat → Int32) (s : ga_M) : Prop := (∀ k, k < 7 → s c k = nI (N k)) ∧ ∀ a, 1 ≤ a → a ≤ 9 → ∀ k, k < N (gov a) → s (c + 2 * a) k = Q a k
def dM2 (b : Nat) (N : Nat → Nat) (Q : Nat → Nat → Int32) (s : ga_M) : Prop := (∀ k, k < 7 → s b k = nI (N k)) ∧ ∀ a, 1 ≤ a → a ≤ 9 → ∀ k, k < N (gov a) → s b (off a + k) = Q a k
theorem dC2_iff {c : Nat} : dC2 c N Q s ↔ dCS c N Q s := by
  constructor
  · rintro ⟨h, h2⟩
    exact ⟨h, h2 1 (by omega) (by omega), h2 2 (by omega) (by omega), h2 3 (by omega) (by omega), h2 4 (by omega) (by omega), h2 5 (by omega) (by omega), h2 6 (by omega) (by omega), h2 7 (by omega) (by omega), h2 8 (by omega) (by omega), h2 9 (by omega) (by omega)⟩
  · rintro ⟨h, h1, h2, h3, h4, h5, h6, h7, h8, h9⟩
    refine ⟨h, fun a ha ha9 => ?_⟩
    rcases (show a = 1 ∨ a = 2 ∨ a = 3 ∨ a = 4 ∨ a = 5 ∨ a = 6 ∨ a = 7 ∨ a = 8 ∨ a = 9 by omega) with rfl | rfl | rfl | rfl | rfl | rfl | rfl | rfl | rfl
    · exact h1
    · exact h2
    · exact h3
    · exact h4
    · exact h5
    · exact h6
    · exact h7
    · exact h8
    · exact h9
theorem dM2_iff {b : Nat} : dM2 b N Q s ↔ dMS b N Q s := by
  constructor
  · rintro ⟨h, h2⟩
    exact ⟨h, h2 1 (by omega) (by omega), h2 2 (by omega) (by omega), h2 3 (by omega) (by omega), h2 4 (by omega) (by omega), h2 5 (by omega) (by omega), h2 6 (by omega) (by omega), h2 7 (by omega) (by omega), h2 8 (by omega) (by omega), h2 9 (by omega) (by omega)⟩
  · rintro ⟨h, h1, h2, h3, h4, h5, h6, h7, h8, h9⟩
    refine ⟨h, fun a ha ha9 => ?_⟩
    rcases (show a = 1 ∨ a = 2 ∨ a = 3 ∨ a = 4 ∨ a = 5 ∨ a = 6 ∨ a = 7 ∨ a = 8 ∨ a = 9 by omega) with rfl | rfl | rfl | rfl | rfl | rfl | rfl | rfl | rfl
    · exact h1
    · exact h2
    · exact h3
    · exact h4
    · exact h5
    · exact h6
    · exact h7
    · exact h8
    · exact h9
def nU (N : Nat → Nat) (i v : Nat) : Nat → Nat := fun k => if k = i then v else N k
theorem nU_eq (N : Nat → Nat) (i v : Nat) : nU N i v i = v := if_pos rfl
theorem nU_ne {N : Nat → Nat} {i v k : Nat} (h : k ≠ i) : nU N i v k = N k := if_neg h
theorem dC2_row {c i k : Nat} (hi : 1 ≤ i) (v : Int32) (h : dC2 c N Q s) : dC2 c N (pS Q i k v) (ga_up s (c + 2 * i) k v) := by
  refine ⟨fun j hj => by rw [d_up_nk (by omega)]; exact h.1 j hj, fun a ha ha9 j hj => ?_⟩
  rw [d_up_at]
  by_cases e : a = i ∧ j = k
  · rw [if_pos (by omega), e.1, e.2, pS_eq]
  · rw [if_neg (by omega), pS_ne e]; exact h.2 a ha ha9 j hj
theorem dM2_row {b i k : Nat} (hB : dBd N) (hi : 1 ≤ i) (hi9 : i ≤ 9) (hk : k < cap i) (v : Int32) (h : dM2 b N Q s) : dM2 b N (pS Q i k v) (ga_up s b (off i + k) v) := by
  have ho := off_cap i (by omega) hi
  refine ⟨fun j hj => by rw [d_up_nk (by omega)]; exact h.1 j hj, fun a ha ha9 j hj => ?_⟩
  have hc := gov_cap hB a
  rw [d_up_at]
  by_cases e : a = i ∧ j = k
  · rw [if_pos (by rw [e.1, e.2]; exact ⟨rfl, rfl⟩), e.1, e.2, pS_eq]
  · rw [if_neg (fun q => off_ne ha ha9 hi hi9 (by omega) hk e q.2), pS_ne e]; exact h.2 a ha ha9 j hj
theorem dC2_cnt {c i v : Nat} (hi : i < 7) (h : dC2 c N Q s) (hv : v = N i ∨ (v = N i + 1 ∧ ∀ a, 1 ≤ a → a ≤ 9 → gov a = i → s (c + 2 * a) (N i) = Q a (N i)) ∨ ∀ a, 1 ≤ a → a ≤ 9 → gov a ≠ i) : dC2 c (nU N i v) Q (ga_up s c i (nI v)) := by
  refine ⟨fun j hj => ?_, fun a ha ha9 j hj => ?_⟩
  · rw [d_up_at]
    by_cases e : j = i
    · rw [if_pos ⟨rfl, e⟩, e, nU_eq]
    · rw [if_neg (fun q => e q.2), nU_ne e]; exact h.1 j hj
  · rw [d_up_ne (by omega)]
    by_cases e : gov a = i
    · rw [e, nU_eq] at hj
      rcases hv with rfl | ⟨rfl, hv⟩ | hv
      · exact h.2 a ha ha9 j (by rw [e]; exact hj)
      · by_cases e2 : j = N i
        · rw [e2]; exact hv a ha ha9 e
        · exact h.2 a ha ha9 j (by rw [e]; omega)
      · exact absurd e (hv a ha ha9)
    · rw [nU_ne e] at hj
      exact h.2 a ha ha9 j hj
theorem dM2_cnt {b i v : Nat} (hi : i < 7) (h : dM2 b N Q s) (hv : v = N i ∨ (v = N i + 1 ∧ ∀ a, 1 ≤ a → a ≤ 9 → gov a = i → s b (off a + N i) = Q a (N i)) ∨ ∀ a, 1 ≤ a → a ≤ 9 → gov a ≠ i) : dM2 b (nU N i v) Q (ga_up s b i (nI v)) := by
  refine ⟨fun j hj => ?_, fun a ha ha9 j hj => ?_⟩
  · rw [d_up_at]
    by_cases e : j = i
    · rw [if_pos ⟨rfl, e⟩, e, nU_eq]
    · rw [if_neg (fun q => e q.2), nU_ne e]; exact h.1 j hj
  · have ho := off_cap a (by omega) ha
    rw [d_up_nk (by omega)]
    by_cases e : gov a = i
    · rw [e, nU_eq] at hj
      rcases hv with rfl | ⟨rfl, hv⟩ | hv
      · exact h.2 a ha ha9 j (by rw [e]; exact hj)
      · by_cases e2 : j = N i
        · rw [e2]; exact hv a ha ha9 e
        · exact h.2 a ha ha9 j (by rw [e]; omega)
      · exact absurd e (hv a ha ha9)
    · rw [nU_ne e] at hj
      exact h.2 a ha ha9 j hj
theorem gov_1 : ∀ a, a < 10 → 1 ≤ a → gov a = 2 → a = 1 := by decide
theorem gov_23 : ∀ a, a < 10 → 1 ≤ a → gov a = 3 → a = 2 ∨ a = 3 := by decide
theorem gov_4 : ∀ a, a < 10 → 1 ≤ a → gov a = 4 → a = 4 := by decide
theorem gov_59 : ∀ a, a < 10 → 1 ≤ a → gov a = 6 → a = 5 ∨ a = 6 ∨ a = 7 ∨ a = 8 ∨ a = 9 := by decide
theorem gov_no : ∀ a, a < 10 → 1 ≤ a → gov a ≠ 0 ∧ gov a ≠ 1 ∧ gov a ≠ 5 := by decide
/-! the four kinds of rows grow -/
theorem c_addSubject (hB : N 2 < 6) (h : dC2 49 N Q s) (v : Int32) : dC2 49 (nU N 2 (N 2 + 1)) (pS Q 1 (N 2) v) (v_X7_addSubject_49 v s) ∧ ∀ c, c ≠ 49 → c ≠ 51 → v_X7_addSubject_49 v s c = s c := by
  rw [ve_X7_addSubject_49]; unfold vb_X7_addSubject_49
  dsimp only
  rw [h.1 2 (by omega), d_pt (show N 2 < 6 from hB) (by omega), d_up_ne (show 49 ≠ 51 by decide), h.1 2 (by omega), d_p1]
  refine ⟨dC2_cnt (by omega) (dC2_row (i := 1) (by omega) v h) (Or.inr (Or.inl ⟨rfl, fun a ha ha9 hg => ?_⟩)), fun c c1 c2 => by rw [d_up_ne c1, d_up_ne c2]⟩
  have := gov_1 a (by omega) ha hg
  subst this
  rw [d_up_eq, pS_eq]
theorem c_addRoom (hB : N 4 < 6) (h : dC2 49 N Q s) (v : Int32) : dC2 49 (nU N 4 (N 4 + 1)) (pS Q 4 (N 4) v) (v_X7_addRoom_49 v s) ∧ ∀ c, c ≠ 49 → c ≠ 57 → v_X7_addRoom_49 v s c = s c := by
  rw [ve_X7_addRoom_49]; unfold vb_X7_addRoom_49
  dsimp only
  rw [h.1 4 (by omega), d_pt (show N 4 < 6 from hB) (by omega), d_up_ne (show 49 ≠ 57 by decide), h.1 4 (by omega), d_p1]
  refine ⟨dC2_cnt (by omega) (dC2_row (i := 4) (by omega) v h) (Or.inr (Or.inl ⟨rfl, fun a ha ha9 hg => ?_⟩)), fun c c1 c2 => by rw [d_up_ne c1, d_up_ne c2]⟩
  have := gov_4 a (by omega) ha hg
  subst this
  rw [d_up_eq, pS_eq]
theorem c_addTeacher (hB : N 3 < 8) (h : dC2 49 N Q s) (v w : Int32) : dC2 49 (nU N 3 (N 3 + 1)) (pS (pS Q 2 (N 3) v) 3 (N 3) w) (v_X7_addTeacher_49 v w s) ∧ ∀ c, c ≠ 49 → c ≠ 53 → c ≠ 55 → v_X7_addTeacher_49 v w s c = s c := by
  rw [ve_X7_addTeacher_49]; unfold vb_X7_addTeacher_49
  dsimp only
  rw [h.1 3 (by omega), d_pt (show N 3 < 8 from hB) (by omega), d_up_ne (show 49 ≠ 53 by decide), h.1 3 (by omega), d_pt (show N 3 < 8 from hB) (by omega), d_up_ne (show 49 ≠ 55 by decide), d_up_ne (show 49 ≠ 53 by decide), h.1 3 (by omega), d_p1]
  refine ⟨dC2_cnt (by omega) (dC2_row (i := 3) (by omega) w (dC2_row (i := 2) (by omega) v h)) (Or.inr (Or.inl ⟨rfl, fun a ha ha9 hg => ?_⟩)), fun c c1 c2 c3 => by rw [d_up_ne c1, d_up_ne c3, d_up_ne c2]⟩
  rcases gov_23 a (by omega) ha hg with rfl | rfl
  · rw [d_up_ne (by decide), d_up_eq, pS_ne (by omega), pS_eq]
  · rw [d_up_eq, pS_eq]
def qL (Q : Nat → Nat → Int32) (k : Nat) (x g u v w : Int32) : Nat → Nat → Int32 := pS (pS (pS (pS (pS Q 7 k x) 5 k g) 6 k u) 8 k v) 9 k w
theorem c_addLesson (hB : N 6 < 40) (h : dC2 49 N Q s) (x g u v w : Int32) : dC2 49 (nU N 6 (N 6 + 1)) (qL Q (N 6) x g u v w) (v_X7_addLesson_49 x g u v w s) ∧ ∀ c, c ≠ 49 → c ≠ 59 → c ≠ 61 → c ≠ 63 → c ≠ 65 → c ≠ 67 → v_X7_addLesson_49 x g u v w s c = s c := by
  have h7 := dC2_row (i := 7) (k := N 6) (by omega) x h
  have h5 := dC2_row (i := 5) (k := N 6) (by omega) g h7
  have h6 := dC2_row (i := 6) (k := N 6) (by omega) u h5
  have h8 := dC2_row (i := 8) (k := N 6) (by omega) v h6
  have h9 := dC2_row (i := 9) (k := N 6) (by omega) w h8
  have e : v_X7_addLesson_49 x g u v w s = ga_up (ga_up (ga_up (ga_up (ga_up (ga_up s 63 (N 6) x) 59 (N 6) g) 61 (N 6) u) 65 (N 6) v) 67 (N 6) w) 49 6 (nI (N 6 + 1)) := by
    rw [ve_X7_addLesson_49]; unfold vb_X7_addLesson_49
    dsimp only
    rw [h.1 6 (by omega), d_pt hB (by omega), d_up_ne (show 49 ≠ 63 by decide), h.1 6 (by omega), d_pt hB (by omega)]
    rw [d_up_ne (show 49 ≠ 59 by decide), d_up_ne (show 49 ≠ 63 by decide), h.1 6 (by omega), d_pt hB (by omega)]
    rw [d_up_ne (show 49 ≠ 61 by decide), d_up_ne (show 49 ≠ 59 by decide), d_up_ne (show 49 ≠ 63 by decide), h.1 6 (by omega), d_pt hB (by omega)]
    rw [d_up_ne (show 49 ≠ 65 by decide), d_up_ne (show 49 ≠ 61 by decide), d_up_ne (show 49 ≠ 59 by decide), d_up_ne (show 49 ≠ 63 by decide), h.1 6 (by omega), d_pt hB (by omega)]
    rw [d_up_ne (show 49 ≠ 67 by decide), d_up_ne (show 49 ≠ 65 by decide), d_up_ne (show 49 ≠ 61 by decide), d_up_ne (show 49 ≠ 59 by decide), d_up_ne (show 49 ≠ 63 by decide), h.1 6 (by omega), d_p1]
  rw [e]
  refine ⟨dC2_cnt (by omega) h9 (Or.inr (Or.inl ⟨rfl, fun a ha ha9 hg => ?_⟩)), fun c c1 c2 c3 c4 c5 c6 => by rw [d_up_ne c1, d_up_ne c6, d_up_ne c5, d_up_ne c3, d_up_ne c2, d_up_ne c4]⟩
  unfold qL pS
  rcases gov_59 a (by omega) ha hg with rfl | rfl | rfl | rfl | rfl
  · simp [d_up_at]
  · simp [d_up_at]
  · simp [d_up_at]
  · simp [d_up_at]
  · simp [d_up_at]
end D46
