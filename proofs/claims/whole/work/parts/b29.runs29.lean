abbrev T_X11_lesson {α : Type} (P : ga_S) (s0 : ga_M) (K0 : ga_O → Option α) (cfg : ga_C) (r : α) : Prop := ga_T RX11 cX11_lesson (ga_lk cl_X11_lesson) gaGP gaCost (fun _ => []) gaCls 83 2 12 false true false none (fun S σ => S = P ∧ σ = s0) K0 cfg r
set_option maxRecDepth 100000 in
theorem t_X11_lesson (a : Int32) (b : Int32) (s : ga_M) (r : Int32 ⊕ Nat) (h : f_X11_lesson a b s = some r) : T_X11_lesson gaSH s gp_kIX (0, [some (.ref 0), some (.int a), some (.int b)], [], gaSH, s, 0, 0) r := (by
    rw [fe_X11_lesson] at h
    exact ga_T_go (sp := ga_sp []) (ga_sp_T (fun _ h => nomatch h)) (n := 600) h)
abbrev T_X12_lesson {α : Type} (P : ga_S) (K0 : ga_O → Option α) (cfg : ga_C) (r : α) : Prop := ga_T RX12 cX12_lesson (ga_lk cl_X12_lesson) gaG gaCost (fun _ => []) gaCls 83 0 0 false true true none (fun S _ => S = P) K0 cfg r
set_option maxRecDepth 100000 in
theorem t_X12_lesson (a : Int32) (b : Int32) (s : ga_M) (r : Int32 × ga_M) (h : f_X12_lesson a b s = some r) : T_X12_lesson gaSH ga_kI (0, [some (.ref 72), some (.int a), some (.int b)], [], gaSH, s, 0, 0) r := (by
    rw [fe_X12_lesson] at h
    exact ga_T_go (sp := ga_sp []) (ga_sp_T (fun _ h => nomatch h)) (n := 600) h)
set_option maxRecDepth 100000 in
theorem t_X7_lessonsWith_16_h5 (s0 : ga_M) : ∀ (n : Nat) (l2 : Int32) (l3 : Int32) (l4 : Int32) (S : ga_S) (s : ga_M) (r : Int32), f_X7_lessonsWith_16_h5 n l2 l3 l4 s = some r → T_X7_lessonsWith gaSH s0 gp_kI (5, [some (.ref 1), some (.ref 16), some (.int l2), some (.int l3), some (.int l4)], [], S, s, 0, 0) r := by
  intro n
  induction n with
  | zero => intro l2 l3 l4 S s r h; cases h
  | succ n ih => intro l2 l3 l4 S s r h; exact ga_T_S fun hS => (by
    obtain ⟨rfl, rfl⟩ := hS
    exact ga_T_go (sp := ga_sp [(5, 0, 0, fun L s => match L with
      | [some (.ref 1), some (.ref 16), some (.int l2), some (.int l3), some (.int l4)] => f_X7_lessonsWith_16_h5 n l2 l3 l4 s
      | _ => none)]) (ga_sp_T (List.forall_mem_cons.mpr ⟨fun L S s1 h => (by
      dsimp only at h
      split at h
      · exact ih _ _ _  S s1 _ h
      · cases h), fun _ h => nomatch h⟩)) (n := 600) h)
set_option maxRecDepth 100000 in
theorem t_X7_lessonsWith_16 (a : Int32) (s : ga_M) (r : Int32) (h : f_X7_lessonsWith_16 a s = some r) : T_X7_lessonsWith gaSH s gp_kI (0, [some (.ref 1), some (.ref 16), some (.int a), none, none], [], gaSH, s, 0, 0) r := (by
    rw [fe_X7_lessonsWith_16] at h
    exact ga_T_go (sp := ga_sp [(5, 0, 0, fun L s => match L with
      | [some (.ref 1), some (.ref 16), some (.int l2), some (.int l3), some (.int l4)] => f_X7_lessonsWith_16_h5 ga_fuel l2 l3 l4 s
      | _ => none)]) (ga_sp_T (List.forall_mem_cons.mpr ⟨fun L S s1 h => (by
      dsimp only at h
      split at h
      · exact t_X7_lessonsWith_16_h5 s ga_fuel _ _ _  S s1 _ h
      · cases h), fun _ h => nomatch h⟩)) (n := 600) h)
abbrev T_X3_taughtBy {α : Type} (P : ga_S) (s0 : ga_M) (K0 : ga_O → Option α) (cfg : ga_C) (r : α) : Prop := ga_T RX3 cX3_taughtBy (ga_lk cl_X3_taughtBy) gaGP gaCost (fun _ => []) gaCls 83 0 0 false true false none (fun S σ => S = P ∧ σ = s0) K0 cfg r
set_option maxRecDepth 100000 in
theorem t_X3_taughtBy_h4 (s0 : ga_M) : ∀ (n : Nat) (l1 : Int32) (l2 : Int32) (l3 : Int32) (S : ga_S) (s : ga_M) (r : Int32), f_X3_taughtBy_h4 n l1 l2 l3 s = some r → T_X3_taughtBy gaSH s0 gp_kI (4, [some (.ref 20), some (.int l1), some (.int l2), some (.int l3)], [], S, s, 0, 0) r := by
  intro n
  induction n with
  | zero => intro l1 l2 l3 S s r h; cases h
  | succ n ih => intro l1 l2 l3 S s r h; exact ga_T_S fun hS => (by
    obtain ⟨rfl, rfl⟩ := hS
    exact ga_T_go (sp := ga_sp [(4, 0, 0, fun L s => match L with
      | [some (.ref 20), some (.int l1), some (.int l2), some (.int l3)] => f_X3_taughtBy_h4 n l1 l2 l3 s
      | _ => none)]) (ga_sp_T (List.forall_mem_cons.mpr ⟨fun L S s1 h => (by
      dsimp only at h
      split at h
      · exact ih _ _ _  S s1 _ h
      · cases h), fun _ h => nomatch h⟩)) (n := 600) h)
set_option maxRecDepth 100000 in
theorem t_X3_taughtBy (a : Int32) (s : ga_M) (r : Int32) (h : f_X3_taughtBy a s = some r) : T_X3_taughtBy gaSH s gp_kI (0, [some (.ref 20), some (.int a), none, none], [], gaSH, s, 0, 0) r := (by
    rw [fe_X3_taughtBy] at h
    exact ga_T_go (sp := ga_sp [(4, 0, 0, fun L s => match L with
      | [some (.ref 20), some (.int l1), some (.int l2), some (.int l3)] => f_X3_taughtBy_h4 ga_fuel l1 l2 l3 s
      | _ => none)]) (ga_sp_T (List.forall_mem_cons.mpr ⟨fun L S s1 h => (by
      dsimp only at h
      split at h
      · exact t_X3_taughtBy_h4 s ga_fuel _ _ _  S s1 _ h
      · cases h), fun _ h => nomatch h⟩)) (n := 600) h)
abbrev T_X11_teacher {α : Type} (P : ga_S) (s0 : ga_M) (K0 : ga_O → Option α) (cfg : ga_C) (r : α) : Prop := ga_T RX11 cX11_teacher (ga_lk cl_X11_teacher) gaGP gaCost (fun _ => []) gaCls 83 2 12 false true false none (fun S σ => S = P ∧ σ = s0) K0 cfg r
set_option maxRecDepth 100000 in
theorem t_X11_teacher (a : Int32) (b : Int32) (s : ga_M) (r : Int32 ⊕ Nat) (h : f_X11_teacher a b s = some r) : T_X11_teacher gaSH s gp_kIX (0, [some (.ref 0), some (.int a), some (.int b)], [], gaSH, s, 0, 0) r := (by
    rw [fe_X11_teacher] at h
    exact ga_T_go (sp := ga_sp []) (ga_sp_T (fun _ h => nomatch h)) (n := 600) h)
abbrev T_X12_teacher {α : Type} (P : ga_S) (K0 : ga_O → Option α) (cfg : ga_C) (r : α) : Prop := ga_T RX12 cX12_teacher (ga_lk cl_X12_teacher) gaG gaCost (fun _ => []) gaCls 83 0 0 false true true none (fun S _ => S = P) K0 cfg r
set_option maxRecDepth 100000 in
theorem t_X12_teacher (a : Int32) (b : Int32) (s : ga_M) (r : Int32 × ga_M) (h : f_X12_teacher a b s = some r) : T_X12_teacher gaSH ga_kI (0, [some (.ref 72), some (.int a), some (.int b)], [], gaSH, s, 0, 0) r := (by
    rw [fe_X12_teacher] at h
    exact ga_T_go (sp := ga_sp []) (ga_sp_T (fun _ h => nomatch h)) (n := 600) h)
set_option maxRecDepth 100000 in
theorem t_X7_lessonsWith_25_h5 (s0 : ga_M) : ∀ (n : Nat) (l2 : Int32) (l3 : Int32) (l4 : Int32) (S : ga_S) (s : ga_M) (r : Int32), f_X7_lessonsWith_25_h5 n l2 l3 l4 s = some r → T_X7_lessonsWith gaSH s0 gp_kI (5, [some (.ref 1), some (.ref 25), some (.int l2), some (.int l3), some (.int l4)], [], S, s, 0, 0) r := by
  intro n
  induction n with
  | zero => intro l2 l3 l4 S s r h; cases h
  | succ n ih => intro l2 l3 l4 S s r h; exact ga_T_S fun hS => (by
    obtain ⟨rfl, rfl⟩ := hS
    exact ga_T_go (sp := ga_sp [(5, 0, 0, fun L s => match L with
      | [some (.ref 1), some (.ref 25), some (.int l2), some (.int l3), some (.int l4)] => f_X7_lessonsWith_25_h5 n l2 l3 l4 s
      | _ => none)]) (ga_sp_T (List.forall_mem_cons.mpr ⟨fun L S s1 h => (by
      dsimp only at h
      split at h
      · exact ih _ _ _  S s1 _ h
      · cases h), fun _ h => nomatch h⟩)) (n := 600) h)
set_option maxRecDepth 100000 in
theorem t_X7_lessonsWith_25 (a : Int32) (s : ga_M) (r : Int32) (h : f_X7_lessonsWith_25 a s = some r) : T_X7_lessonsWith gaSH s gp_kI (0, [some (.ref 1), some (.ref 25), some (.int a), none, none], [], gaSH, s, 0, 0) r := (by
    rw [fe_X7_lessonsWith_25] at h
    exact ga_T_go (sp := ga_sp [(5, 0, 0, fun L s => match L with
      | [some (.ref 1), some (.ref 25), some (.int l2), some (.int l3), some (.int l4)] => f_X7_lessonsWith_25_h5 ga_fuel l2 l3 l4 s
      | _ => none)]) (ga_sp_T (List.forall_mem_cons.mpr ⟨fun L S s1 h => (by
      dsimp only at h
      split at h
      · exact t_X7_lessonsWith_25_h5 s ga_fuel _ _ _  S s1 _ h
      · cases h), fun _ h => nomatch h⟩)) (n := 600) h)
abbrev T_X11_room {α : Type} (P : ga_S) (s0 : ga_M) (K0 : ga_O → Option α) (cfg : ga_C) (r : α) : Prop := ga_T RX11 cX11_room (ga_lk cl_X11_room) gaGP gaCost (fun _ => []) gaCls 83 2 12 false true false none (fun S σ => S = P ∧ σ = s0) K0 cfg r
set_option maxRecDepth 100000 in
theorem t_X11_room (a : Int32) (b : Int32) (s : ga_M) (r : Int32 ⊕ Nat) (h : f_X11_room a b s = some r) : T_X11_room gaSH s gp_kIX (0, [some (.ref 0), some (.int a), some (.int b)], [], gaSH, s, 0, 0) r := (by
    rw [fe_X11_room] at h
    exact ga_T_go (sp := ga_sp []) (ga_sp_T (fun _ h => nomatch h)) (n := 600) h)
