section D52
/-! ===== reading a whole school ===== -/
variable {T : Nat → Nat} {L : Nat} {N : Nat → Nat} {Q : Nat → Nat → Int32} {s t : ga_M}
theorem z_h13 (h : mZ t) {w : Nat} {ws : List Nat} (hw : wOk w ws) (a b c : Int32) : f_X12_readKinds w a b c t = some t := by
  obtain ⟨n, hn⟩ : ∃ n, ga_fuel = n + 1 := ⟨ga_fuel - 1, by have := d_fuel (n := 20) (by omega); omega⟩
  rw [fe_X12_readKinds]; unfold fb_X12_readKinds
  rw [z_isWord h hw, Option.bind_some, if_pos rfl]
  dsimp only
  rw [z_wrong h, hn, f_X12_readKinds_h13, z_isWord h hw, Option.bind_some, if_pos rfl]
theorem z_h15 (h : mZ t) : f_X12_readTeachers t = some t := by
  obtain ⟨n, hn⟩ : ∃ n, ga_fuel = n + 1 := ⟨ga_fuel - 1, by have := d_fuel (n := 20) (by omega); omega⟩
  rw [fe_X12_readTeachers]; unfold fb_X12_readTeachers
  rw [z_isWord h w_teacher2, Option.bind_some, if_pos rfl]
  dsimp only
  rw [z_wrong h, hn, f_X12_readTeachers_h15, z_isWord h w_teacher2, Option.bind_some, if_pos rfl]
theorem z_classes (h : mZ t) : rClasses t = some (ga_up t 74 5 1) := by
  unfold rClasses
  rw [z_must h w_classes2, Option.bind_some, z_number h, Option.bind_some]
  dsimp only
  rw [z_must (z_up h) w_semi]
noncomputable def cRd (s : ga_M) : Option (Int32 × ga_M) :=
  (f_X8_readGrid s).bind fun q3 => if q3.1 = 0 then some (0, q3.2) else
  (f_X8_readSubjects q3.2).bind fun q4 => if q4.1 = 0 then some (0, q4.2) else
  (f_X8_readTeachers q4.2).bind fun q5 => if q5.1 = 0 then some (0, q5.2) else
  (f_X8_readRooms q5.2).bind fun q6 => if q6.1 = 0 then some (0, q6.2) else
  (f_X8_readClasses q6.2).bind fun q7 => if q7.1 = 0 then some (0, q7.2) else
  (f_X8_readLessons q7.2).bind fun q8 => if q8.1 = 0 then some (0, q8.2) else some (1, q8.2)
noncomputable def rRd (t : ga_M) : Option (Int32 × ga_M) :=
  (rGrid t).bind fun s107 => (f_X12_readKinds 1040 2 6 7 s107).bind fun s108 => (f_X12_readTeachers s108).bind fun s109 => (f_X12_readKinds 1042 4 6 29 s109).bind fun s110 => (rClasses s110).bind fun s114 => f_X12_parseSchool_h125 ga_fuel s114
theorem rRd_eq (t : ga_M) : rRd t = (f_X12_must 1038 t).bind fun s102 => (f_X12_number 1 5 s102).bind fun q103 => (f_X12_number 1 6 (ga_up q103.2 74 0 q103.1)).bind fun q105 => (f_X12_must 1039 (ga_up q105.2 74 1 q105.1)).bind fun s107 =>
    (f_X12_readKinds 1040 2 6 7 s107).bind fun s108 => (f_X12_readTeachers s108).bind fun s109 => (f_X12_readKinds 1042 4 6 29 s109).bind fun s110 => (f_X12_must 1043 s110).bind fun s111 => (f_X12_number 1 6 s111).bind fun q112 => (f_X12_must 1039 (ga_up q112.2 74 5 q112.1)).bind fun s114 => f_X12_parseSchool_h125 ga_fuel s114 := by
  unfold rRd rGrid rClasses
  simp only [Option.bind_assoc]
theorem l_read (hT : tOk T L) (h2 : N 2 = 0) (h3 : N 3 = 0) (h4 : N 4 = 0) (h6 : N 6 = 0) {st : Nat} (h : pOk T L st N Q s t) :
    (∃ st2 N2 Q2 s2 t2, cRd s = some (1, s2) ∧ rRd t = f_X12_parseSchool_h176 ga_fuel 0 t2 ∧ pOk T L st2 N2 Q2 s2 t2 ∧ pFc s s2 ∧ pFm t t2 ∧ dWN6 N2 ∧ dWQ N2 Q2) ∨
    ∃ s2 t2, cRd s = some (0, s2) ∧ rRd t = some (-1, t2) ∧ tBad s2 t2 ∧ pFc s s2 ∧ pFm t t2 := by
  obtain ⟨n, hn⟩ : ∃ n, ga_fuel = n + 1 := ⟨ga_fuel - 1, by have := d_fuel (n := 20) (by omega); omega⟩
  have z5 : ∀ t : ga_M, mZ t → ((rClasses t).bind fun s114 => f_X12_parseSchool_h125 ga_fuel s114) = some (-1, ga_up t 74 5 1) := fun t ht => by
    rw [z_classes ht, Option.bind_some, hn, z_h125 (z_up ht)]
  have z4 : ∀ t : ga_M, mZ t → ((f_X12_readKinds 1042 4 6 29 t).bind fun s110 => (rClasses s110).bind fun s114 => f_X12_parseSchool_h125 ga_fuel s114) = some (-1, ga_up t 74 5 1) := fun t ht => by
    rw [z_h13 ht w_room2, Option.bind_some, z5 t ht]
  have z3 : ∀ t : ga_M, mZ t → ((f_X12_readTeachers t).bind fun s109 => (f_X12_readKinds 1042 4 6 29 s109).bind fun s110 => (rClasses s110).bind fun s114 => f_X12_parseSchool_h125 ga_fuel s114) = some (-1, ga_up t 74 5 1) := fun t ht => by
    rw [z_h15 ht, Option.bind_some, z4 t ht]
  have z2 : ∀ t : ga_M, mZ t → ((f_X12_readKinds 1040 2 6 7 t).bind fun s108 => (f_X12_readTeachers s108).bind fun s109 => (f_X12_readKinds 1042 4 6 29 s109).bind fun s110 => (rClasses s110).bind fun s114 => f_X12_parseSchool_h125 ga_fuel s114) = some (-1, ga_up t 74 5 1) := fun t ht => by
    rw [z_h13 ht w_subject2, Option.bind_some, z3 t ht]
  have up : ∀ s t : ga_M, tBad s t → tBad s (ga_up t 74 5 1) := fun s t ht => tBad_t (d_up_ne (by decide)) ht
  unfold cRd rRd
  rcases l_grid hT h with ⟨st1, N1, Q1, s1, t1, a1, a2, a3, a4, a5, rfl, d, p, hd, hp, rfl⟩ | ⟨s1, t1, a1, a2, a3, a4, a5⟩
  rotate_left
  · rw [a1, a2, Option.bind_some, Option.bind_some]
    dsimp only
    rw [if_pos rfl, z2 t1 a3.2.2]
    exact Or.inr ⟨s1, _, rfl, rfl, up _ _ a3, a4, pFm_trans a5 (pFm_up _ _ _)⟩
  rw [a1, a2, Option.bind_some, Option.bind_some]
  dsimp only
  rw [if_neg (show ¬ (1 : Int32) = 0 by decide)]
  have hB1 : dBd (nU (nU N 0 d) 1 p) := ⟨show N 2 ≤ 6 by omega, show N 3 ≤ 8 by omega, show N 4 ≤ 6 by omega, show N 6 ≤ 40 by omega⟩
  rcases l_Subjects hT hB1 (show N 2 = 0 from h2) a3 with ⟨st2, N2, Q2, s2, t2, b1, b2, b3, b4, b5, b6, b7, _⟩ | ⟨s2, t2, b1, b2, b3, b4, b5⟩
  rotate_left
  · rw [b1, b2, Option.bind_some, Option.bind_some]
    dsimp only
    rw [if_pos rfl, z3 t2 b3.2.2]
    exact Or.inr ⟨s2, _, rfl, rfl, up _ _ b3, pFc_trans a4 b4, pFm_trans a5 (pFm_trans b5 (pFm_up _ _ _))⟩
  rw [b1, b2, Option.bind_some, Option.bind_some]
  dsimp only
  rw [if_neg (show ¬ (1 : Int32) = 0 by decide)]
  have m0 : N2 0 = d := by rw [b6 0 (by omega)]; rfl
  have m1 : N2 1 = p := by rw [b6 1 (by omega)]; rfl
  have m3 : N2 3 = 0 := by rw [b6 3 (by omega)]; exact h3
  have m4 : N2 4 = 0 := by rw [b6 4 (by omega)]; exact h4
  have m6 : N2 6 = 0 := by rw [b6 6 (by omega)]; exact h6
  rcases l_Teachers hT (show dBd N2 from ⟨by omega, by omega, by omega, by omega⟩) b7.1 m3 b3 with ⟨st3, N3, Q3, s3, t3, c1, c2, c3, c4, c5, c6, c7, _⟩ | ⟨s3, t3, c1, c2, c3, c4, c5⟩
  rotate_left
  · rw [c1, c2, Option.bind_some, Option.bind_some]
    dsimp only
    rw [if_pos rfl, z4 t3 c3.2.2]
    exact Or.inr ⟨s3, _, rfl, rfl, up _ _ c3, pFc_trans a4 (pFc_trans b4 c4), pFm_trans a5 (pFm_trans b5 (pFm_trans c5 (pFm_up _ _ _)))⟩
  rw [c1, c2, Option.bind_some, Option.bind_some]
  dsimp only
  rw [if_neg (show ¬ (1 : Int32) = 0 by decide)]
  have l0 : N3 0 = d := by rw [c6 0 (by omega)]; exact m0
  have l1 : N3 1 = p := by rw [c6 1 (by omega)]; exact m1
  have l2 : N3 2 = N2 2 := c6 2 (by omega)
  have l4 : N3 4 = 0 := by rw [c6 4 (by omega)]; exact m4
  have l6 : N3 6 = 0 := by rw [c6 6 (by omega)]; exact m6
  rcases l_Rooms hT (show dBd N3 from ⟨by omega, by omega, by omega, by omega⟩) l4 c3 with ⟨st4, N4, Q4, s4, t4, e1, e2, e3, e4, e5, e6, e7, _⟩ | ⟨s4, t4, e1, e2, e3, e4, e5⟩
  rotate_left
  · rw [e1, e2, Option.bind_some, Option.bind_some]
    dsimp only
    rw [if_pos rfl, z5 t4 e3.2.2]
    exact Or.inr ⟨s4, _, rfl, rfl, up _ _ e3, pFc_trans a4 (pFc_trans b4 (pFc_trans c4 e4)), pFm_trans a5 (pFm_trans b5 (pFm_trans c5 (pFm_trans e5 (pFm_up _ _ _))))⟩
  rw [e1, e2, Option.bind_some, Option.bind_some]
  dsimp only
  rw [if_neg (show ¬ (1 : Int32) = 0 by decide)]
  have k0 : N4 0 = d := by rw [e6 0 (by omega)]; exact l0
  have k1 : N4 1 = p := by rw [e6 1 (by omega)]; exact l1
  have k2 : N4 2 = N2 2 := by rw [e6 2 (by omega)]; exact l2
  have k3 : N4 3 = N3 3 := e6 3 (by omega)
  have k6 : N4 6 = 0 := by rw [e6 6 (by omega)]; exact l6
  rcases l_classes hT e3 with ⟨st5, N5, Q5, s5, t5, f1, f2, f3, f4, f5, rfl, y, hy, rfl⟩ | ⟨s5, t5, f1, f2, f3, f4, f5⟩
  rotate_left
  · rw [f1, f2, Option.bind_some, Option.bind_some]
    dsimp only
    rw [if_pos rfl, hn, z_h125 f3.2.2]
    exact Or.inr ⟨s5, _, rfl, rfl, f3, pFc_trans a4 (pFc_trans b4 (pFc_trans c4 (pFc_trans e4 f4))), pFm_trans a5 (pFm_trans b5 (pFm_trans c5 (pFm_trans e5 f5)))⟩
  rw [f1, f2, Option.bind_some, Option.bind_some]
  dsimp only
  rw [if_neg (show ¬ (1 : Int32) = 0 by decide), fe_X8_readLessons]
  unfold fb_X8_readLessons
  have n6 : nU N4 5 y 6 = 0 := k6
  have hN : dWN6 (nU N4 5 y) := ⟨show 1 ≤ N4 0 ∧ N4 0 ≤ 5 by omega, show 1 ≤ N4 1 ∧ N4 1 ≤ 6 by omega, show 1 ≤ N4 2 ∧ N4 2 ≤ 6 by omega, show 1 ≤ N4 3 ∧ N4 3 ≤ 8 by omega, show 1 ≤ N4 4 ∧ N4 4 ≤ 6 by omega, show 1 ≤ y ∧ y ≤ 6 by omega, show N4 6 ≤ 40 by omega⟩
  have hQ : dWQ (nU N4 5 y) Q5 := by
    unfold dWQ
    rw [n6]
    exact ⟨fun k hk => by omega, fun k hk => by omega, fun k hk => by omega, fun k hk => by omega, fun k _ hk => by omega, fun k _ hk => by omega⟩
  have hf := d_fuel (n := 100) (by omega)
  rcases l_loopL hT 40 0 ga_fuel ga_fuel st5 _ _ s5 t5 (by omega) n6.symm (by omega) (by omega) hN hQ f3 with ⟨st6, N6, Q6, s6, t6, g1, g2, g3, g4, g5, g6, g7⟩ | ⟨s6, t6, g1, g2, g3, g4, g5⟩
  · rw [show f_X8_readLessons_h2 ga_fuel 0 s5 = some (1, s6) from g1, g2, Option.bind_some]
    dsimp only
    rw [if_neg (show ¬ (1 : Int32) = 0 by decide)]
    exact Or.inl ⟨st6, N6, Q6, s6, t6, rfl, rfl, g3, pFc_trans a4 (pFc_trans b4 (pFc_trans c4 (pFc_trans e4 (pFc_trans f4 g4)))), pFm_trans a5 (pFm_trans b5 (pFm_trans c5 (pFm_trans e5 (pFm_trans f5 g5)))), g6, g7⟩
  · rw [show f_X8_readLessons_h2 ga_fuel 0 s5 = some (0, s6) from g1, g2, Option.bind_some]
    dsimp only
    rw [if_pos rfl]
    exact Or.inr ⟨s6, t6, rfl, rfl, g3, pFc_trans a4 (pFc_trans b4 (pFc_trans c4 (pFc_trans e4 (pFc_trans f4 g4)))), pFm_trans a5 (pFm_trans b5 (pFm_trans c5 (pFm_trans e5 (pFm_trans f5 g5))))⟩
end D52
