noncomputable section
def cl_L_type : List (Nat × ga_E) := [
  (0, .iconst 0, 1, 0, 0, [(0, 0)]),
  (1, .istore_n 2, 1, 2, 0, []),
  (2, .iload_n 2, 1, 2, 0, []),
  (3, .aload_n 1, 1, 1, 0, []),
  (4, .invokevirtual 7, 3, 4, 1, []),
  (7, .if_icmp .ge 88, 3, 95, 0, []),
  (10, .iconst 5, 1, 0, 0, [(5, 0)]),
  (11, .newarray .int, 2, 0, 0, []),
  (13, .astore_n 3, 1, 3, 0, []),
  (14, .iconst 0, 1, 0, 0, [(0, 0)]),
  (15, .istore 4, 2, 4, 0, []),
  (17, .iload 4, 2, 4, 0, []),
  (19, .bipush 20, 2, 0, 0, [(20, 0)]),
  (21, .if_icmp .ge 48, 3, 69, 0, []),
  (24, .aload_n 3, 1, 3, 0, []),
  (25, .iload 4, 2, 4, 0, []),
  (27, .iconst 4, 1, 0, 0, [(4, 0)]),
  (28, .idiv, 1, 0, 0, []),
  (29, .aload_n 3, 1, 3, 0, []),
  (30, .iload 4, 2, 4, 0, []),
  (32, .iconst 4, 1, 0, 0, [(4, 0)]),
  (33, .idiv, 1, 0, 0, []),
  (34, .iaload, 1, 0, 0, []),
  (35, .bipush 8, 2, 0, 0, [(8, 0)]),
  (37, .ishl, 1, 0, 0, []),
  (38, .iload_n 2, 1, 2, 0, []),
  (39, .iload 4, 2, 4, 0, []),
  (41, .iadd, 1, 0, 0, []),
  (42, .aload_n 1, 1, 1, 0, []),
  (43, .invokevirtual 7, 3, 4, 1, []),
  (46, .if_icmp .ge 14, 3, 60, 0, []),
  (49, .aload_n 1, 1, 1, 0, []),
  (50, .iload_n 2, 1, 2, 0, []),
  (51, .iload 4, 2, 4, 0, []),
  (53, .iadd, 1, 0, 0, []),
  (54, .invokevirtual 13, 3, 5, 2, []),
  (57, .goto 4, 3, 61, 0, []),
  (60, .iconst 0, 1, 0, 0, [(0, 0)]),
  (61, .ior, 1, 0, 0, []),
  (62, .iastore, 1, 0, 0, []),
  (63, .iinc 4 1, 3, 4, 0, [(1, 0)]),
  (66, .goto (-49), 3, 17, 0, []),
  (69, .aload_n 0, 1, 0, 0, []),
  (70, .aload_n 3, 1, 3, 0, []),
  (71, .iconst 0, 1, 0, 0, [(0, 0)]),
  (72, .iaload, 1, 0, 0, []),
  (73, .aload_n 3, 1, 3, 0, []),
  (74, .iconst 1, 1, 0, 0, [(1, 0)]),
  (75, .iaload, 1, 0, 0, []),
  (76, .aload_n 3, 1, 3, 0, []),
  (77, .iconst 2, 1, 0, 0, [(2, 0)]),
  (78, .iaload, 1, 0, 0, []),
  (79, .aload_n 3, 1, 3, 0, []),
  (80, .iconst 3, 1, 0, 0, [(3, 0)]),
  (81, .iaload, 1, 0, 0, []),
  (82, .aload_n 3, 1, 3, 0, []),
  (83, .iconst 4, 1, 0, 0, [(4, 0)]),
  (84, .iaload, 1, 0, 0, []),
  (85, .invokevirtual 17, 3, 400, 6, [(0, 11)]),
  (88, .pop, 1, 0, 0, []),
  (89, .iinc 2 20, 3, 2, 0, [(20, 0)]),
  (92, .goto (-90), 3, 2, 0, []),
  (95, .aload_n 0, 1, 0, 0, []),
  (96, .aload_n 1, 1, 1, 0, []),
  (97, .invokevirtual 7, 3, 4, 1, []),
  (100, .invokevirtual 23, 3, 401, 2, [(0, 11)]),
  (103, .pop, 1, 0, 0, []),
  (104, .return_, 1, 0, 0, [])]
def gy_in (S : ga_S) : Bool := (gk_eq S gaA1 || (gk_eq S gaA2 || (gk_eq S gaA3 || (gk_eq S gaA4 || (gk_eq S gaA5 || (gk_eq S gaA6 || (gk_eq S gaA7 || (gk_eq S gaA8 || (gk_eq S gaA9 || (gk_eq S gaA10 || (gk_eq S gaA11 || gk_eq S gaSH)))))))))))
def cy_a {α : Type} (as : List Value) (S : ga_S) (s : ga_M) (K : ga_O → Option α) : Option α := match as with
  | [.ref r0, .int a, .int b, .int c, .int d, .int e] => bif Nat.beq r0 0 && gy_in S then (f_X11_appendText a b c d e s).bind fun q => Sum.elim (fun x => K (.inl (some (.int x)), S, q.2)) (fun _ => none) q.1 else none
  | _ => none
def cy_t {α : Type} (as : List Value) (S : ga_S) (s : ga_M) (K : ga_O → Option α) : Option α := match as with
  | [.ref r0, .int a] => bif Nat.beq r0 0 && gk_eq S gaSH then (f_X11_truncateText a s).bind fun q => Sum.elim (fun x => K (.inl (some (.int x)), S, q.2)) (fun _ => none) q.1 else none
  | _ => none
def gaY : ga_G := fun α mid as S s K => bif Nat.beq mid 4 then c_J0_length_8abf5 as S s K else (bif Nat.beq mid 5 then c_J0_charAt_5068e as S s K else (bif Nat.beq mid 400 then cy_a as S s K else (bif Nat.beq mid 401 then cy_t as S s K else none)))
theorem gy_ea (as : List Value) (S : ga_S) (s : ga_M) : ge_N (fun _ => True) (fun α K => cy_a as S s K) := by
  unfold cy_a
  split
  · exact ge_cond (ge_bind (fun q => by obtain ⟨q1 | q1, q2⟩ := q; exact ge_K trivial; exact ge_none)) ge_none
  · exact ge_none
theorem gy_et (as : List Value) (S : ga_S) (s : ga_M) : ge_N (fun _ => True) (fun α K => cy_t as S s K) := by
  unfold cy_t
  split
  · exact ge_cond (ge_bind (fun q => by obtain ⟨q1 | q1, q2⟩ := q; exact ge_K trivial; exact ge_none)) ge_none
  · exact ge_none
theorem gy_w {P P2 : ga_O → Prop} {F : ∀ α : Type, (ga_O → Option α) → Option α} (h : ge_N P F) (hp : ∀ o, P o → P2 o) : ge_N P2 F := fun α k o hk => (h α k o hk).elim fun o1 h1 => ⟨o1, hp _ h1.1, h1.2⟩
theorem gy_e (mid : Nat) (as : List Value) (S : ga_S) (s : ga_M) : ge_N (fun _ => True) (fun α K => gaY α mid as S s K) := ge_cond (gy_w (ge_J0_length_8abf5 as S s) fun _ _ => trivial) (ge_cond (gy_w (ge_J0_charAt_5068e as S s) fun _ _ => trivial) (ge_cond (gy_ea as S s) (ge_cond (gy_et as S s) ge_none)))
theorem gy_g : ∀ (α : Type) mid as S σ (k : ga_O → Option α) o, gaY α mid as S σ k = some o → ∃ o1, gaY ga_O mid as S σ some = some o1 ∧ k o1 = some o := fun α mid as S σ k o h => (gy_e mid as S σ α k o h).elim fun o1 h1 => ⟨o1, h1.2⟩
/-- the answer, with the last shape -/
def gy_k : ga_O → Option ga_M
  | (.inl none, S, σ) => bif gk_eq S gaSH then some σ else none
  | _ => none
theorem gy_ho {r : ga_M} : ∀ o', gy_k o' = some r → o' = (.inl none, gaSH, r) := by
  intro o' h
  unfold gy_k at h
  split at h
  · obtain ⟨h1, h2⟩ := gc_bif h
    have e := gk_eq_eq h1
    cases h2
    rw [e]
  · cases h
abbrev TV_type (B C : Nat) (cfg : ga_C) (r : ga_M) : Prop := gv_T RL cL_type (ga_lk cl_L_type) gaY gaCost (fun _ => []) gaCls 84 false true true none (fun _ _ => True) gy_k B C cfg r
set_option maxRecDepth 100000 in
theorem ty_o12 (l2 : Int32) (w3 w4 : Option Value) (s r : ga_M) (h : f_L_type_o [] l2 s = some r) : TV_type 1 6 (2, [some (.ref 0), some (.ref 1024), some (.int l2), w3, w4], [], gaSH, s, 0, 0) r := by
  unfold f_L_type_o at h
  exact gv_T_go (B1 := 1) (C1 := 6) (sp := []) (by have := gv_f21_eq; omega) (by have := gv_f21_eq; omega) (fun _ h => nomatch h) (n := 900) h
set_option maxRecDepth 100000 in
theorem ty_i11 : ∀ (n : Nat) (l2 l4 : Int32) (s r : ga_M), f_L_type_i 83 (fun l2 s => f_L_type_o [] l2 s) n l2 l4 s = some r → TV_type (n * 1 + 1) (n * 6 + 6) (17, [some (.ref 0), some (.ref 1024), some (.int l2), some (.ref 83), some (.int l4)], [], gaSH, s, 0, 0) r := by
  intro n
  induction n with
  | zero => intro l2 l4 s r h; cases h
  | succ n ih =>
    intro l2 l4 s r h
    unfold f_L_type_i at h
    exact gv_T_go (B1 := 1) (C1 := 6) (sp := [(17, fun L S s => match L with
      | [some (.ref 0), some (.ref 1024), some (.int l2), some (.ref 83), some (.int l4)] => bif gk_eq S gaSH then f_L_type_i 83 (fun l2 s => f_L_type_o [] l2 s) n l2 l4 s else none
      | _ => none), (2, fun L S s => match L with
      | [some (.ref 0), some (.ref 1024), some (.int l2), _, _] => bif gk_eq S gaSH then f_L_type_o [] l2 s else none
      | _ => none)]) (by have := gv_f21_eq; omega) (by have := gv_f21_eq; omega) (List.forall_mem_cons.mpr ⟨fun L S s1 h => (by
      dsimp only at h
      split at h
      · obtain ⟨hS, h2⟩ := gc_bif h
        have eS := gk_eq_eq hS
        subst eS
        exact gv_T_mono (by have := gv_f21_eq; omega) (by have := gv_f21_eq; omega) (ih _ _ s1 _ h2)
      · cases h), List.forall_mem_cons.mpr ⟨fun L S s1 h => (by
      dsimp only at h
      split at h
      · obtain ⟨hS, h2⟩ := gc_bif h
        have eS := gk_eq_eq hS
        subst eS
        exact gv_T_mono (by have := gv_f21_eq; omega) (by have := gv_f21_eq; omega) (ty_o12 _ _ _ s1 _ h2)
      · cases h), fun _ h => nomatch h⟩⟩) (n := 900) h
set_option maxRecDepth 100000 in
theorem ty_o11 (l2 : Int32) (w3 w4 : Option Value) (s r : ga_M) (h : f_L_type_o [83] l2 s = some r) : TV_type 23 137 (2, [some (.ref 0), some (.ref 1024), some (.int l2), w3, w4], [], gaA11, s, 0, 0) r := by
  unfold f_L_type_o at h
  exact gv_T_go (B1 := 1) (C1 := 5) (sp := [(17, fun L S s => match L with
      | [some (.ref 0), some (.ref 1024), some (.int l2), some (.ref 83), some (.int l4)] => bif gk_eq S gaSH then f_L_type_i 83 (fun l2 s => f_L_type_o [] l2 s) gv_f21 l2 l4 s else none
      | _ => none)]) (by have := gv_f21_eq; omega) (by have := gv_f21_eq; omega) (List.forall_mem_cons.mpr ⟨fun L S s1 h => (by
      dsimp only at h
      split at h
      · obtain ⟨hS, h2⟩ := gc_bif h
        have eS := gk_eq_eq hS
        subst eS
        exact gv_T_mono (by have := gv_f21_eq; omega) (by have := gv_f21_eq; omega) (ty_i11 gv_f21 _ _ s1 _ h2)
      · cases h), fun _ h => nomatch h⟩) (n := 900) h
set_option maxRecDepth 100000 in
theorem ty_i10 : ∀ (n : Nat) (l2 l4 : Int32) (s r : ga_M), f_L_type_i 82 (fun l2 s => f_L_type_o [83] l2 s) n l2 l4 s = some r → TV_type (n * 1 + 23) (n * 6 + 137) (17, [some (.ref 0), some (.ref 1024), some (.int l2), some (.ref 82), some (.int l4)], [], gaA11, s, 0, 0) r := by
  intro n
  induction n with
  | zero => intro l2 l4 s r h; cases h
  | succ n ih =>
    intro l2 l4 s r h
    unfold f_L_type_i at h
    exact gv_T_go (B1 := 1) (C1 := 6) (sp := [(17, fun L S s => match L with
      | [some (.ref 0), some (.ref 1024), some (.int l2), some (.ref 82), some (.int l4)] => bif gk_eq S gaA11 then f_L_type_i 82 (fun l2 s => f_L_type_o [83] l2 s) n l2 l4 s else none
      | _ => none), (2, fun L S s => match L with
      | [some (.ref 0), some (.ref 1024), some (.int l2), _, _] => bif gk_eq S gaA11 then f_L_type_o [83] l2 s else none
      | _ => none)]) (by have := gv_f21_eq; omega) (by have := gv_f21_eq; omega) (List.forall_mem_cons.mpr ⟨fun L S s1 h => (by
      dsimp only at h
      split at h
      · obtain ⟨hS, h2⟩ := gc_bif h
        have eS := gk_eq_eq hS
        subst eS
        exact gv_T_mono (by have := gv_f21_eq; omega) (by have := gv_f21_eq; omega) (ih _ _ s1 _ h2)
      · cases h), List.forall_mem_cons.mpr ⟨fun L S s1 h => (by
      dsimp only at h
      split at h
      · obtain ⟨hS, h2⟩ := gc_bif h
        have eS := gk_eq_eq hS
        subst eS
        exact gv_T_mono (by have := gv_f21_eq; omega) (by have := gv_f21_eq; omega) (ty_o11 _ _ _ s1 _ h2)
      · cases h), fun _ h => nomatch h⟩⟩) (n := 900) h
set_option maxRecDepth 100000 in
theorem ty_o10 (l2 : Int32) (w3 w4 : Option Value) (s r : ga_M) (h : f_L_type_o [82, 83] l2 s = some r) : TV_type 45 268 (2, [some (.ref 0), some (.ref 1024), some (.int l2), w3, w4], [], gaA10, s, 0, 0) r := by
  unfold f_L_type_o at h
  exact gv_T_go (B1 := 1) (C1 := 5) (sp := [(17, fun L S s => match L with
      | [some (.ref 0), some (.ref 1024), some (.int l2), some (.ref 82), some (.int l4)] => bif gk_eq S gaA11 then f_L_type_i 82 (fun l2 s => f_L_type_o [83] l2 s) gv_f21 l2 l4 s else none
      | _ => none)]) (by have := gv_f21_eq; omega) (by have := gv_f21_eq; omega) (List.forall_mem_cons.mpr ⟨fun L S s1 h => (by
      dsimp only at h
      split at h
      · obtain ⟨hS, h2⟩ := gc_bif h
        have eS := gk_eq_eq hS
        subst eS
        exact gv_T_mono (by have := gv_f21_eq; omega) (by have := gv_f21_eq; omega) (ty_i10 gv_f21 _ _ s1 _ h2)
      · cases h), fun _ h => nomatch h⟩) (n := 900) h
set_option maxRecDepth 100000 in
theorem ty_i9 : ∀ (n : Nat) (l2 l4 : Int32) (s r : ga_M), f_L_type_i 81 (fun l2 s => f_L_type_o [82, 83] l2 s) n l2 l4 s = some r → TV_type (n * 1 + 45) (n * 6 + 268) (17, [some (.ref 0), some (.ref 1024), some (.int l2), some (.ref 81), some (.int l4)], [], gaA10, s, 0, 0) r := by
  intro n
  induction n with
  | zero => intro l2 l4 s r h; cases h
  | succ n ih =>
    intro l2 l4 s r h
    unfold f_L_type_i at h
    exact gv_T_go (B1 := 1) (C1 := 6) (sp := [(17, fun L S s => match L with
      | [some (.ref 0), some (.ref 1024), some (.int l2), some (.ref 81), some (.int l4)] => bif gk_eq S gaA10 then f_L_type_i 81 (fun l2 s => f_L_type_o [82, 83] l2 s) n l2 l4 s else none
      | _ => none), (2, fun L S s => match L with
      | [some (.ref 0), some (.ref 1024), some (.int l2), _, _] => bif gk_eq S gaA10 then f_L_type_o [82, 83] l2 s else none
      | _ => none)]) (by have := gv_f21_eq; omega) (by have := gv_f21_eq; omega) (List.forall_mem_cons.mpr ⟨fun L S s1 h => (by
      dsimp only at h
      split at h
      · obtain ⟨hS, h2⟩ := gc_bif h
        have eS := gk_eq_eq hS
        subst eS
        exact gv_T_mono (by have := gv_f21_eq; omega) (by have := gv_f21_eq; omega) (ih _ _ s1 _ h2)
      · cases h), List.forall_mem_cons.mpr ⟨fun L S s1 h => (by
      dsimp only at h
      split at h
      · obtain ⟨hS, h2⟩ := gc_bif h
        have eS := gk_eq_eq hS
        subst eS
        exact gv_T_mono (by have := gv_f21_eq; omega) (by have := gv_f21_eq; omega) (ty_o10 _ _ _ s1 _ h2)
      · cases h), fun _ h => nomatch h⟩⟩) (n := 900) h
set_option maxRecDepth 100000 in
theorem ty_o9 (l2 : Int32) (w3 w4 : Option Value) (s r : ga_M) (h : f_L_type_o [81, 82, 83] l2 s = some r) : TV_type 67 399 (2, [some (.ref 0), some (.ref 1024), some (.int l2), w3, w4], [], gaA9, s, 0, 0) r := by
  unfold f_L_type_o at h
  exact gv_T_go (B1 := 1) (C1 := 5) (sp := [(17, fun L S s => match L with
      | [some (.ref 0), some (.ref 1024), some (.int l2), some (.ref 81), some (.int l4)] => bif gk_eq S gaA10 then f_L_type_i 81 (fun l2 s => f_L_type_o [82, 83] l2 s) gv_f21 l2 l4 s else none
      | _ => none)]) (by have := gv_f21_eq; omega) (by have := gv_f21_eq; omega) (List.forall_mem_cons.mpr ⟨fun L S s1 h => (by
      dsimp only at h
      split at h
      · obtain ⟨hS, h2⟩ := gc_bif h
        have eS := gk_eq_eq hS
        subst eS
        exact gv_T_mono (by have := gv_f21_eq; omega) (by have := gv_f21_eq; omega) (ty_i9 gv_f21 _ _ s1 _ h2)
      · cases h), fun _ h => nomatch h⟩) (n := 900) h
set_option maxRecDepth 100000 in
theorem ty_i8 : ∀ (n : Nat) (l2 l4 : Int32) (s r : ga_M), f_L_type_i 80 (fun l2 s => f_L_type_o [81, 82, 83] l2 s) n l2 l4 s = some r → TV_type (n * 1 + 67) (n * 6 + 399) (17, [some (.ref 0), some (.ref 1024), some (.int l2), some (.ref 80), some (.int l4)], [], gaA9, s, 0, 0) r := by
  intro n
  induction n with
  | zero => intro l2 l4 s r h; cases h
  | succ n ih =>
    intro l2 l4 s r h
    unfold f_L_type_i at h
    exact gv_T_go (B1 := 1) (C1 := 6) (sp := [(17, fun L S s => match L with
      | [some (.ref 0), some (.ref 1024), some (.int l2), some (.ref 80), some (.int l4)] => bif gk_eq S gaA9 then f_L_type_i 80 (fun l2 s => f_L_type_o [81, 82, 83] l2 s) n l2 l4 s else none
      | _ => none), (2, fun L S s => match L with
      | [some (.ref 0), some (.ref 1024), some (.int l2), _, _] => bif gk_eq S gaA9 then f_L_type_o [81, 82, 83] l2 s else none
      | _ => none)]) (by have := gv_f21_eq; omega) (by have := gv_f21_eq; omega) (List.forall_mem_cons.mpr ⟨fun L S s1 h => (by
      dsimp only at h
      split at h
      · obtain ⟨hS, h2⟩ := gc_bif h
        have eS := gk_eq_eq hS
        subst eS
        exact gv_T_mono (by have := gv_f21_eq; omega) (by have := gv_f21_eq; omega) (ih _ _ s1 _ h2)
      · cases h), List.forall_mem_cons.mpr ⟨fun L S s1 h => (by
      dsimp only at h
      split at h
      · obtain ⟨hS, h2⟩ := gc_bif h
        have eS := gk_eq_eq hS
        subst eS
        exact gv_T_mono (by have := gv_f21_eq; omega) (by have := gv_f21_eq; omega) (ty_o9 _ _ _ s1 _ h2)
      · cases h), fun _ h => nomatch h⟩⟩) (n := 900) h
set_option maxRecDepth 100000 in
theorem ty_o8 (l2 : Int32) (w3 w4 : Option Value) (s r : ga_M) (h : f_L_type_o [80, 81, 82, 83] l2 s = some r) : TV_type 89 530 (2, [some (.ref 0), some (.ref 1024), some (.int l2), w3, w4], [], gaA8, s, 0, 0) r := by
  unfold f_L_type_o at h
  exact gv_T_go (B1 := 1) (C1 := 5) (sp := [(17, fun L S s => match L with
      | [some (.ref 0), some (.ref 1024), some (.int l2), some (.ref 80), some (.int l4)] => bif gk_eq S gaA9 then f_L_type_i 80 (fun l2 s => f_L_type_o [81, 82, 83] l2 s) gv_f21 l2 l4 s else none
      | _ => none)]) (by have := gv_f21_eq; omega) (by have := gv_f21_eq; omega) (List.forall_mem_cons.mpr ⟨fun L S s1 h => (by
      dsimp only at h
      split at h
      · obtain ⟨hS, h2⟩ := gc_bif h
        have eS := gk_eq_eq hS
        subst eS
        exact gv_T_mono (by have := gv_f21_eq; omega) (by have := gv_f21_eq; omega) (ty_i8 gv_f21 _ _ s1 _ h2)
      · cases h), fun _ h => nomatch h⟩) (n := 900) h
set_option maxRecDepth 100000 in
theorem ty_i7 : ∀ (n : Nat) (l2 l4 : Int32) (s r : ga_M), f_L_type_i 79 (fun l2 s => f_L_type_o [80, 81, 82, 83] l2 s) n l2 l4 s = some r → TV_type (n * 1 + 89) (n * 6 + 530) (17, [some (.ref 0), some (.ref 1024), some (.int l2), some (.ref 79), some (.int l4)], [], gaA8, s, 0, 0) r := by
  intro n
  induction n with
  | zero => intro l2 l4 s r h; cases h
  | succ n ih =>
    intro l2 l4 s r h
    unfold f_L_type_i at h
    exact gv_T_go (B1 := 1) (C1 := 6) (sp := [(17, fun L S s => match L with
      | [some (.ref 0), some (.ref 1024), some (.int l2), some (.ref 79), some (.int l4)] => bif gk_eq S gaA8 then f_L_type_i 79 (fun l2 s => f_L_type_o [80, 81, 82, 83] l2 s) n l2 l4 s else none
      | _ => none), (2, fun L S s => match L with
      | [some (.ref 0), some (.ref 1024), some (.int l2), _, _] => bif gk_eq S gaA8 then f_L_type_o [80, 81, 82, 83] l2 s else none
      | _ => none)]) (by have := gv_f21_eq; omega) (by have := gv_f21_eq; omega) (List.forall_mem_cons.mpr ⟨fun L S s1 h => (by
      dsimp only at h
      split at h
      · obtain ⟨hS, h2⟩ := gc_bif h
        have eS := gk_eq_eq hS
        subst eS
        exact gv_T_mono (by have := gv_f21_eq; omega) (by have := gv_f21_eq; omega) (ih _ _ s1 _ h2)
      · cases h), List.forall_mem_cons.mpr ⟨fun L S s1 h => (by
      dsimp only at h
      split at h
      · obtain ⟨hS, h2⟩ := gc_bif h
        have eS := gk_eq_eq hS
        subst eS
        exact gv_T_mono (by have := gv_f21_eq; omega) (by have := gv_f21_eq; omega) (ty_o8 _ _ _ s1 _ h2)
      · cases h), fun _ h => nomatch h⟩⟩) (n := 900) h
set_option maxRecDepth 100000 in
theorem ty_o7 (l2 : Int32) (w3 w4 : Option Value) (s r : ga_M) (h : f_L_type_o [79, 80, 81, 82, 83] l2 s = some r) : TV_type 111 661 (2, [some (.ref 0), some (.ref 1024), some (.int l2), w3, w4], [], gaA7, s, 0, 0) r := by
  unfold f_L_type_o at h
  exact gv_T_go (B1 := 1) (C1 := 5) (sp := [(17, fun L S s => match L with
      | [some (.ref 0), some (.ref 1024), some (.int l2), some (.ref 79), some (.int l4)] => bif gk_eq S gaA8 then f_L_type_i 79 (fun l2 s => f_L_type_o [80, 81, 82, 83] l2 s) gv_f21 l2 l4 s else none
      | _ => none)]) (by have := gv_f21_eq; omega) (by have := gv_f21_eq; omega) (List.forall_mem_cons.mpr ⟨fun L S s1 h => (by
      dsimp only at h
      split at h
      · obtain ⟨hS, h2⟩ := gc_bif h
        have eS := gk_eq_eq hS
        subst eS
        exact gv_T_mono (by have := gv_f21_eq; omega) (by have := gv_f21_eq; omega) (ty_i7 gv_f21 _ _ s1 _ h2)
      · cases h), fun _ h => nomatch h⟩) (n := 900) h
set_option maxRecDepth 100000 in
theorem ty_i6 : ∀ (n : Nat) (l2 l4 : Int32) (s r : ga_M), f_L_type_i 78 (fun l2 s => f_L_type_o [79, 80, 81, 82, 83] l2 s) n l2 l4 s = some r → TV_type (n * 1 + 111) (n * 6 + 661) (17, [some (.ref 0), some (.ref 1024), some (.int l2), some (.ref 78), some (.int l4)], [], gaA7, s, 0, 0) r := by
  intro n
  induction n with
  | zero => intro l2 l4 s r h; cases h
  | succ n ih =>
    intro l2 l4 s r h
    unfold f_L_type_i at h
    exact gv_T_go (B1 := 1) (C1 := 6) (sp := [(17, fun L S s => match L with
      | [some (.ref 0), some (.ref 1024), some (.int l2), some (.ref 78), some (.int l4)] => bif gk_eq S gaA7 then f_L_type_i 78 (fun l2 s => f_L_type_o [79, 80, 81, 82, 83] l2 s) n l2 l4 s else none
      | _ => none), (2, fun L S s => match L with
      | [some (.ref 0), some (.ref 1024), some (.int l2), _, _] => bif gk_eq S gaA7 then f_L_type_o [79, 80, 81, 82, 83] l2 s else none
      | _ => none)]) (by have := gv_f21_eq; omega) (by have := gv_f21_eq; omega) (List.forall_mem_cons.mpr ⟨fun L S s1 h => (by
      dsimp only at h
      split at h
      · obtain ⟨hS, h2⟩ := gc_bif h
        have eS := gk_eq_eq hS
        subst eS
        exact gv_T_mono (by have := gv_f21_eq; omega) (by have := gv_f21_eq; omega) (ih _ _ s1 _ h2)
      · cases h), List.forall_mem_cons.mpr ⟨fun L S s1 h => (by
      dsimp only at h
      split at h
      · obtain ⟨hS, h2⟩ := gc_bif h
        have eS := gk_eq_eq hS
        subst eS
        exact gv_T_mono (by have := gv_f21_eq; omega) (by have := gv_f21_eq; omega) (ty_o7 _ _ _ s1 _ h2)
      · cases h), fun _ h => nomatch h⟩⟩) (n := 900) h
set_option maxRecDepth 100000 in
theorem ty_o6 (l2 : Int32) (w3 w4 : Option Value) (s r : ga_M) (h : f_L_type_o [78, 79, 80, 81, 82, 83] l2 s = some r) : TV_type 133 792 (2, [some (.ref 0), some (.ref 1024), some (.int l2), w3, w4], [], gaA6, s, 0, 0) r := by
  unfold f_L_type_o at h
  exact gv_T_go (B1 := 1) (C1 := 5) (sp := [(17, fun L S s => match L with
      | [some (.ref 0), some (.ref 1024), some (.int l2), some (.ref 78), some (.int l4)] => bif gk_eq S gaA7 then f_L_type_i 78 (fun l2 s => f_L_type_o [79, 80, 81, 82, 83] l2 s) gv_f21 l2 l4 s else none
      | _ => none)]) (by have := gv_f21_eq; omega) (by have := gv_f21_eq; omega) (List.forall_mem_cons.mpr ⟨fun L S s1 h => (by
      dsimp only at h
      split at h
      · obtain ⟨hS, h2⟩ := gc_bif h
        have eS := gk_eq_eq hS
        subst eS
        exact gv_T_mono (by have := gv_f21_eq; omega) (by have := gv_f21_eq; omega) (ty_i6 gv_f21 _ _ s1 _ h2)
      · cases h), fun _ h => nomatch h⟩) (n := 900) h
set_option maxRecDepth 100000 in
theorem ty_i5 : ∀ (n : Nat) (l2 l4 : Int32) (s r : ga_M), f_L_type_i 77 (fun l2 s => f_L_type_o [78, 79, 80, 81, 82, 83] l2 s) n l2 l4 s = some r → TV_type (n * 1 + 133) (n * 6 + 792) (17, [some (.ref 0), some (.ref 1024), some (.int l2), some (.ref 77), some (.int l4)], [], gaA6, s, 0, 0) r := by
  intro n
  induction n with
  | zero => intro l2 l4 s r h; cases h
  | succ n ih =>
    intro l2 l4 s r h
    unfold f_L_type_i at h
    exact gv_T_go (B1 := 1) (C1 := 6) (sp := [(17, fun L S s => match L with
      | [some (.ref 0), some (.ref 1024), some (.int l2), some (.ref 77), some (.int l4)] => bif gk_eq S gaA6 then f_L_type_i 77 (fun l2 s => f_L_type_o [78, 79, 80, 81, 82, 83] l2 s) n l2 l4 s else none
      | _ => none), (2, fun L S s => match L with
      | [some (.ref 0), some (.ref 1024), some (.int l2), _, _] => bif gk_eq S gaA6 then f_L_type_o [78, 79, 80, 81, 82, 83] l2 s else none
      | _ => none)]) (by have := gv_f21_eq; omega) (by have := gv_f21_eq; omega) (List.forall_mem_cons.mpr ⟨fun L S s1 h => (by
      dsimp only at h
      split at h
      · obtain ⟨hS, h2⟩ := gc_bif h
        have eS := gk_eq_eq hS
        subst eS
        exact gv_T_mono (by have := gv_f21_eq; omega) (by have := gv_f21_eq; omega) (ih _ _ s1 _ h2)
      · cases h), List.forall_mem_cons.mpr ⟨fun L S s1 h => (by
      dsimp only at h
      split at h
      · obtain ⟨hS, h2⟩ := gc_bif h
        have eS := gk_eq_eq hS
        subst eS
        exact gv_T_mono (by have := gv_f21_eq; omega) (by have := gv_f21_eq; omega) (ty_o6 _ _ _ s1 _ h2)
      · cases h), fun _ h => nomatch h⟩⟩) (n := 900) h
set_option maxRecDepth 100000 in
theorem ty_o5 (l2 : Int32) (w3 w4 : Option Value) (s r : ga_M) (h : f_L_type_o [77, 78, 79, 80, 81, 82, 83] l2 s = some r) : TV_type 155 923 (2, [some (.ref 0), some (.ref 1024), some (.int l2), w3, w4], [], gaA5, s, 0, 0) r := by
  unfold f_L_type_o at h
  exact gv_T_go (B1 := 1) (C1 := 5) (sp := [(17, fun L S s => match L with
      | [some (.ref 0), some (.ref 1024), some (.int l2), some (.ref 77), some (.int l4)] => bif gk_eq S gaA6 then f_L_type_i 77 (fun l2 s => f_L_type_o [78, 79, 80, 81, 82, 83] l2 s) gv_f21 l2 l4 s else none
      | _ => none)]) (by have := gv_f21_eq; omega) (by have := gv_f21_eq; omega) (List.forall_mem_cons.mpr ⟨fun L S s1 h => (by
      dsimp only at h
      split at h
      · obtain ⟨hS, h2⟩ := gc_bif h
        have eS := gk_eq_eq hS
        subst eS
        exact gv_T_mono (by have := gv_f21_eq; omega) (by have := gv_f21_eq; omega) (ty_i5 gv_f21 _ _ s1 _ h2)
      · cases h), fun _ h => nomatch h⟩) (n := 900) h
set_option maxRecDepth 100000 in
theorem ty_i4 : ∀ (n : Nat) (l2 l4 : Int32) (s r : ga_M), f_L_type_i 76 (fun l2 s => f_L_type_o [77, 78, 79, 80, 81, 82, 83] l2 s) n l2 l4 s = some r → TV_type (n * 1 + 155) (n * 6 + 923) (17, [some (.ref 0), some (.ref 1024), some (.int l2), some (.ref 76), some (.int l4)], [], gaA5, s, 0, 0) r := by
  intro n
  induction n with
  | zero => intro l2 l4 s r h; cases h
  | succ n ih =>
    intro l2 l4 s r h
    unfold f_L_type_i at h
    exact gv_T_go (B1 := 1) (C1 := 6) (sp := [(17, fun L S s => match L with
      | [some (.ref 0), some (.ref 1024), some (.int l2), some (.ref 76), some (.int l4)] => bif gk_eq S gaA5 then f_L_type_i 76 (fun l2 s => f_L_type_o [77, 78, 79, 80, 81, 82, 83] l2 s) n l2 l4 s else none
      | _ => none), (2, fun L S s => match L with
      | [some (.ref 0), some (.ref 1024), some (.int l2), _, _] => bif gk_eq S gaA5 then f_L_type_o [77, 78, 79, 80, 81, 82, 83] l2 s else none
      | _ => none)]) (by have := gv_f21_eq; omega) (by have := gv_f21_eq; omega) (List.forall_mem_cons.mpr ⟨fun L S s1 h => (by
      dsimp only at h
      split at h
      · obtain ⟨hS, h2⟩ := gc_bif h
        have eS := gk_eq_eq hS
        subst eS
        exact gv_T_mono (by have := gv_f21_eq; omega) (by have := gv_f21_eq; omega) (ih _ _ s1 _ h2)
      · cases h), List.forall_mem_cons.mpr ⟨fun L S s1 h => (by
      dsimp only at h
      split at h
      · obtain ⟨hS, h2⟩ := gc_bif h
        have eS := gk_eq_eq hS
        subst eS
        exact gv_T_mono (by have := gv_f21_eq; omega) (by have := gv_f21_eq; omega) (ty_o5 _ _ _ s1 _ h2)
      · cases h), fun _ h => nomatch h⟩⟩) (n := 900) h
set_option maxRecDepth 100000 in
theorem ty_o4 (l2 : Int32) (w3 w4 : Option Value) (s r : ga_M) (h : f_L_type_o [76, 77, 78, 79, 80, 81, 82, 83] l2 s = some r) : TV_type 177 1054 (2, [some (.ref 0), some (.ref 1024), some (.int l2), w3, w4], [], gaA4, s, 0, 0) r := by
  unfold f_L_type_o at h
  exact gv_T_go (B1 := 1) (C1 := 5) (sp := [(17, fun L S s => match L with
      | [some (.ref 0), some (.ref 1024), some (.int l2), some (.ref 76), some (.int l4)] => bif gk_eq S gaA5 then f_L_type_i 76 (fun l2 s => f_L_type_o [77, 78, 79, 80, 81, 82, 83] l2 s) gv_f21 l2 l4 s else none
      | _ => none)]) (by have := gv_f21_eq; omega) (by have := gv_f21_eq; omega) (List.forall_mem_cons.mpr ⟨fun L S s1 h => (by
      dsimp only at h
      split at h
      · obtain ⟨hS, h2⟩ := gc_bif h
        have eS := gk_eq_eq hS
        subst eS
        exact gv_T_mono (by have := gv_f21_eq; omega) (by have := gv_f21_eq; omega) (ty_i4 gv_f21 _ _ s1 _ h2)
      · cases h), fun _ h => nomatch h⟩) (n := 900) h
set_option maxRecDepth 100000 in
theorem ty_i3 : ∀ (n : Nat) (l2 l4 : Int32) (s r : ga_M), f_L_type_i 75 (fun l2 s => f_L_type_o [76, 77, 78, 79, 80, 81, 82, 83] l2 s) n l2 l4 s = some r → TV_type (n * 1 + 177) (n * 6 + 1054) (17, [some (.ref 0), some (.ref 1024), some (.int l2), some (.ref 75), some (.int l4)], [], gaA4, s, 0, 0) r := by
  intro n
  induction n with
  | zero => intro l2 l4 s r h; cases h
  | succ n ih =>
    intro l2 l4 s r h
    unfold f_L_type_i at h
    exact gv_T_go (B1 := 1) (C1 := 6) (sp := [(17, fun L S s => match L with
      | [some (.ref 0), some (.ref 1024), some (.int l2), some (.ref 75), some (.int l4)] => bif gk_eq S gaA4 then f_L_type_i 75 (fun l2 s => f_L_type_o [76, 77, 78, 79, 80, 81, 82, 83] l2 s) n l2 l4 s else none
      | _ => none), (2, fun L S s => match L with
      | [some (.ref 0), some (.ref 1024), some (.int l2), _, _] => bif gk_eq S gaA4 then f_L_type_o [76, 77, 78, 79, 80, 81, 82, 83] l2 s else none
      | _ => none)]) (by have := gv_f21_eq; omega) (by have := gv_f21_eq; omega) (List.forall_mem_cons.mpr ⟨fun L S s1 h => (by
      dsimp only at h
      split at h
      · obtain ⟨hS, h2⟩ := gc_bif h
        have eS := gk_eq_eq hS
        subst eS
        exact gv_T_mono (by have := gv_f21_eq; omega) (by have := gv_f21_eq; omega) (ih _ _ s1 _ h2)
      · cases h), List.forall_mem_cons.mpr ⟨fun L S s1 h => (by
      dsimp only at h
      split at h
      · obtain ⟨hS, h2⟩ := gc_bif h
        have eS := gk_eq_eq hS
        subst eS
        exact gv_T_mono (by have := gv_f21_eq; omega) (by have := gv_f21_eq; omega) (ty_o4 _ _ _ s1 _ h2)
      · cases h), fun _ h => nomatch h⟩⟩) (n := 900) h
set_option maxRecDepth 100000 in
theorem ty_o3 (l2 : Int32) (w3 w4 : Option Value) (s r : ga_M) (h : f_L_type_o [75, 76, 77, 78, 79, 80, 81, 82, 83] l2 s = some r) : TV_type 199 1185 (2, [some (.ref 0), some (.ref 1024), some (.int l2), w3, w4], [], gaA3, s, 0, 0) r := by
  unfold f_L_type_o at h
  exact gv_T_go (B1 := 1) (C1 := 5) (sp := [(17, fun L S s => match L with
      | [some (.ref 0), some (.ref 1024), some (.int l2), some (.ref 75), some (.int l4)] => bif gk_eq S gaA4 then f_L_type_i 75 (fun l2 s => f_L_type_o [76, 77, 78, 79, 80, 81, 82, 83] l2 s) gv_f21 l2 l4 s else none
      | _ => none)]) (by have := gv_f21_eq; omega) (by have := gv_f21_eq; omega) (List.forall_mem_cons.mpr ⟨fun L S s1 h => (by
      dsimp only at h
      split at h
      · obtain ⟨hS, h2⟩ := gc_bif h
        have eS := gk_eq_eq hS
        subst eS
        exact gv_T_mono (by have := gv_f21_eq; omega) (by have := gv_f21_eq; omega) (ty_i3 gv_f21 _ _ s1 _ h2)
      · cases h), fun _ h => nomatch h⟩) (n := 900) h
set_option maxRecDepth 100000 in
theorem ty_i2 : ∀ (n : Nat) (l2 l4 : Int32) (s r : ga_M), f_L_type_i 74 (fun l2 s => f_L_type_o [75, 76, 77, 78, 79, 80, 81, 82, 83] l2 s) n l2 l4 s = some r → TV_type (n * 1 + 199) (n * 6 + 1185) (17, [some (.ref 0), some (.ref 1024), some (.int l2), some (.ref 74), some (.int l4)], [], gaA3, s, 0, 0) r := by
  intro n
  induction n with
  | zero => intro l2 l4 s r h; cases h
  | succ n ih =>
    intro l2 l4 s r h
    unfold f_L_type_i at h
    exact gv_T_go (B1 := 1) (C1 := 6) (sp := [(17, fun L S s => match L with
      | [some (.ref 0), some (.ref 1024), some (.int l2), some (.ref 74), some (.int l4)] => bif gk_eq S gaA3 then f_L_type_i 74 (fun l2 s => f_L_type_o [75, 76, 77, 78, 79, 80, 81, 82, 83] l2 s) n l2 l4 s else none
      | _ => none), (2, fun L S s => match L with
      | [some (.ref 0), some (.ref 1024), some (.int l2), _, _] => bif gk_eq S gaA3 then f_L_type_o [75, 76, 77, 78, 79, 80, 81, 82, 83] l2 s else none
      | _ => none)]) (by have := gv_f21_eq; omega) (by have := gv_f21_eq; omega) (List.forall_mem_cons.mpr ⟨fun L S s1 h => (by
      dsimp only at h
      split at h
      · obtain ⟨hS, h2⟩ := gc_bif h
        have eS := gk_eq_eq hS
        subst eS
        exact gv_T_mono (by have := gv_f21_eq; omega) (by have := gv_f21_eq; omega) (ih _ _ s1 _ h2)
      · cases h), List.forall_mem_cons.mpr ⟨fun L S s1 h => (by
      dsimp only at h
      split at h
      · obtain ⟨hS, h2⟩ := gc_bif h
        have eS := gk_eq_eq hS
        subst eS
        exact gv_T_mono (by have := gv_f21_eq; omega) (by have := gv_f21_eq; omega) (ty_o3 _ _ _ s1 _ h2)
      · cases h), fun _ h => nomatch h⟩⟩) (n := 900) h
set_option maxRecDepth 100000 in
theorem ty_o2 (l2 : Int32) (w3 w4 : Option Value) (s r : ga_M) (h : f_L_type_o [74, 75, 76, 77, 78, 79, 80, 81, 82, 83] l2 s = some r) : TV_type 221 1316 (2, [some (.ref 0), some (.ref 1024), some (.int l2), w3, w4], [], gaA2, s, 0, 0) r := by
  unfold f_L_type_o at h
  exact gv_T_go (B1 := 1) (C1 := 5) (sp := [(17, fun L S s => match L with
      | [some (.ref 0), some (.ref 1024), some (.int l2), some (.ref 74), some (.int l4)] => bif gk_eq S gaA3 then f_L_type_i 74 (fun l2 s => f_L_type_o [75, 76, 77, 78, 79, 80, 81, 82, 83] l2 s) gv_f21 l2 l4 s else none
      | _ => none)]) (by have := gv_f21_eq; omega) (by have := gv_f21_eq; omega) (List.forall_mem_cons.mpr ⟨fun L S s1 h => (by
      dsimp only at h
      split at h
      · obtain ⟨hS, h2⟩ := gc_bif h
        have eS := gk_eq_eq hS
        subst eS
        exact gv_T_mono (by have := gv_f21_eq; omega) (by have := gv_f21_eq; omega) (ty_i2 gv_f21 _ _ s1 _ h2)
      · cases h), fun _ h => nomatch h⟩) (n := 900) h
set_option maxRecDepth 100000 in
theorem ty_i1 : ∀ (n : Nat) (l2 l4 : Int32) (s r : ga_M), f_L_type_i 73 (fun l2 s => f_L_type_o [74, 75, 76, 77, 78, 79, 80, 81, 82, 83] l2 s) n l2 l4 s = some r → TV_type (n * 1 + 221) (n * 6 + 1316) (17, [some (.ref 0), some (.ref 1024), some (.int l2), some (.ref 73), some (.int l4)], [], gaA2, s, 0, 0) r := by
  intro n
  induction n with
  | zero => intro l2 l4 s r h; cases h
  | succ n ih =>
    intro l2 l4 s r h
    unfold f_L_type_i at h
    exact gv_T_go (B1 := 1) (C1 := 6) (sp := [(17, fun L S s => match L with
      | [some (.ref 0), some (.ref 1024), some (.int l2), some (.ref 73), some (.int l4)] => bif gk_eq S gaA2 then f_L_type_i 73 (fun l2 s => f_L_type_o [74, 75, 76, 77, 78, 79, 80, 81, 82, 83] l2 s) n l2 l4 s else none
      | _ => none), (2, fun L S s => match L with
      | [some (.ref 0), some (.ref 1024), some (.int l2), _, _] => bif gk_eq S gaA2 then f_L_type_o [74, 75, 76, 77, 78, 79, 80, 81, 82, 83] l2 s else none
      | _ => none)]) (by have := gv_f21_eq; omega) (by have := gv_f21_eq; omega) (List.forall_mem_cons.mpr ⟨fun L S s1 h => (by
      dsimp only at h
      split at h
      · obtain ⟨hS, h2⟩ := gc_bif h
        have eS := gk_eq_eq hS
        subst eS
        exact gv_T_mono (by have := gv_f21_eq; omega) (by have := gv_f21_eq; omega) (ih _ _ s1 _ h2)
      · cases h), List.forall_mem_cons.mpr ⟨fun L S s1 h => (by
      dsimp only at h
      split at h
      · obtain ⟨hS, h2⟩ := gc_bif h
        have eS := gk_eq_eq hS
        subst eS
        exact gv_T_mono (by have := gv_f21_eq; omega) (by have := gv_f21_eq; omega) (ty_o2 _ _ _ s1 _ h2)
      · cases h), fun _ h => nomatch h⟩⟩) (n := 900) h
set_option maxRecDepth 100000 in
theorem ty_o1 (l2 : Int32) (w3 w4 : Option Value) (s r : ga_M) (h : f_L_type_o [73, 74, 75, 76, 77, 78, 79, 80, 81, 82, 83] l2 s = some r) : TV_type 243 1447 (2, [some (.ref 0), some (.ref 1024), some (.int l2), w3, w4], [], gaA1, s, 0, 0) r := by
  unfold f_L_type_o at h
  exact gv_T_go (B1 := 1) (C1 := 5) (sp := [(17, fun L S s => match L with
      | [some (.ref 0), some (.ref 1024), some (.int l2), some (.ref 73), some (.int l4)] => bif gk_eq S gaA2 then f_L_type_i 73 (fun l2 s => f_L_type_o [74, 75, 76, 77, 78, 79, 80, 81, 82, 83] l2 s) gv_f21 l2 l4 s else none
      | _ => none)]) (by have := gv_f21_eq; omega) (by have := gv_f21_eq; omega) (List.forall_mem_cons.mpr ⟨fun L S s1 h => (by
      dsimp only at h
      split at h
      · obtain ⟨hS, h2⟩ := gc_bif h
        have eS := gk_eq_eq hS
        subst eS
        exact gv_T_mono (by have := gv_f21_eq; omega) (by have := gv_f21_eq; omega) (ty_i1 gv_f21 _ _ s1 _ h2)
      · cases h), fun _ h => nomatch h⟩) (n := 900) h
set_option maxRecDepth 100000 in
theorem ty_i0 : ∀ (n : Nat) (l2 l4 : Int32) (s r : ga_M), f_L_type_i 72 (fun l2 s => f_L_type_o [73, 74, 75, 76, 77, 78, 79, 80, 81, 82, 83] l2 s) n l2 l4 s = some r → TV_type (n * 1 + 243) (n * 6 + 1447) (17, [some (.ref 0), some (.ref 1024), some (.int l2), some (.ref 72), some (.int l4)], [], gaA1, s, 0, 0) r := by
  intro n
  induction n with
  | zero => intro l2 l4 s r h; cases h
  | succ n ih =>
    intro l2 l4 s r h
    unfold f_L_type_i at h
    exact gv_T_go (B1 := 1) (C1 := 6) (sp := [(17, fun L S s => match L with
      | [some (.ref 0), some (.ref 1024), some (.int l2), some (.ref 72), some (.int l4)] => bif gk_eq S gaA1 then f_L_type_i 72 (fun l2 s => f_L_type_o [73, 74, 75, 76, 77, 78, 79, 80, 81, 82, 83] l2 s) n l2 l4 s else none
      | _ => none), (2, fun L S s => match L with
      | [some (.ref 0), some (.ref 1024), some (.int l2), _, _] => bif gk_eq S gaA1 then f_L_type_o [73, 74, 75, 76, 77, 78, 79, 80, 81, 82, 83] l2 s else none
      | _ => none)]) (by have := gv_f21_eq; omega) (by have := gv_f21_eq; omega) (List.forall_mem_cons.mpr ⟨fun L S s1 h => (by
      dsimp only at h
      split at h
      · obtain ⟨hS, h2⟩ := gc_bif h
        have eS := gk_eq_eq hS
        subst eS
        exact gv_T_mono (by have := gv_f21_eq; omega) (by have := gv_f21_eq; omega) (ih _ _ s1 _ h2)
      · cases h), List.forall_mem_cons.mpr ⟨fun L S s1 h => (by
      dsimp only at h
      split at h
      · obtain ⟨hS, h2⟩ := gc_bif h
        have eS := gk_eq_eq hS
        subst eS
        exact gv_T_mono (by have := gv_f21_eq; omega) (by have := gv_f21_eq; omega) (ty_o1 _ _ _ s1 _ h2)
      · cases h), fun _ h => nomatch h⟩⟩) (n := 900) h
set_option maxRecDepth 100000 in
theorem ty_o0 (l2 : Int32) (w3 w4 : Option Value) (s r : ga_M) (h : f_L_type_o [72, 73, 74, 75, 76, 77, 78, 79, 80, 81, 82, 83] l2 s = some r) : TV_type 265 1578 (2, [some (.ref 0), some (.ref 1024), some (.int l2), w3, w4], [], gkB_X11_init_0, s, 0, 0) r := by
  unfold f_L_type_o at h
  exact gv_T_go (B1 := 1) (C1 := 5) (sp := [(17, fun L S s => match L with
      | [some (.ref 0), some (.ref 1024), some (.int l2), some (.ref 72), some (.int l4)] => bif gk_eq S gaA1 then f_L_type_i 72 (fun l2 s => f_L_type_o [73, 74, 75, 76, 77, 78, 79, 80, 81, 82, 83] l2 s) gv_f21 l2 l4 s else none
      | _ => none)]) (by have := gv_f21_eq; omega) (by have := gv_f21_eq; omega) (List.forall_mem_cons.mpr ⟨fun L S s1 h => (by
      dsimp only at h
      split at h
      · obtain ⟨hS, h2⟩ := gc_bif h
        have eS := gk_eq_eq hS
        subst eS
        exact gv_T_mono (by have := gv_f21_eq; omega) (by have := gv_f21_eq; omega) (ty_i0 gv_f21 _ _ s1 _ h2)
      · cases h), fun _ h => nomatch h⟩) (n := 900) h
set_option maxRecDepth 100000 in
theorem ty_type (s r : ga_M) (h : f_L_type s = some r) : TV_type 265 1578 (0, [some (.ref 0), some (.ref 1024), none, none, none], [], gkB_X11_init_0, s, 0, 0) r := by
  rw [fe_L_type] at h
  exact gv_T_go (B1 := 0) (C1 := 0) (sp := [(2, fun L S s => match L with
      | [some (.ref 0), some (.ref 1024), some (.int l2), _, _] => bif gk_eq S gkB_X11_init_0 then f_L_type_o [72, 73, 74, 75, 76, 77, 78, 79, 80, 81, 82, 83] l2 s else none
      | _ => none)]) (by have := gv_f21_eq; omega) (by have := gv_f21_eq; omega) (List.forall_mem_cons.mpr ⟨fun L S s1 h => (by
      dsimp only at h
      split at h
      · obtain ⟨hS, h2⟩ := gc_bif h
        have eS := gk_eq_eq hS
        subst eS
        exact gv_T_mono (by have := gv_f21_eq; omega) (by have := gv_f21_eq; omega) (ty_o0 _ _ _ s1 _ h2)
      · cases h), fun _ h => nomatch h⟩) (n := 900) h
end
