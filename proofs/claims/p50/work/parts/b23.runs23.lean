abbrev T_X7_lessonsWith {α : Type} (P : ga_S) (s0 : ga_M) (K0 : ga_O → Option α) (cfg : ga_C) (r : α) : Prop := ga_T RX7 cX7_lessonsWith (ga_lk cl_X7_lessonsWith) gaGP gaCost (fun _ => []) gaCls 84 0 0 false true false none (fun S σ => S = P ∧ σ = s0) K0 cfg r
set_option maxRecDepth 100000 in
theorem t_X7_lessonsWith_27_h5 (s0 : ga_M) : ∀ (n : Nat) (l2 : Int32) (l3 : Int32) (l4 : Int32) (S : ga_S) (s : ga_M) (r : Int32), f_X7_lessonsWith_27_h5 n l2 l3 l4 s = some r → T_X7_lessonsWith gaSH s0 gp_kI (5, [some (.ref 1), some (.ref 27), some (.int l2), some (.int l3), some (.int l4)], [], S, s, 0, 0) r := by
  intro n
  induction n with
  | zero => intro l2 l3 l4 S s r h; cases h
  | succ n ih => intro l2 l3 l4 S s r h; exact ga_T_S fun hS => (by
    obtain ⟨rfl, rfl⟩ := hS
    exact ga_T_go (sp := ga_sp [(5, 0, 0, fun L s => match L with
      | [some (.ref 1), some (.ref 27), some (.int l2), some (.int l3), some (.int l4)] => f_X7_lessonsWith_27_h5 n l2 l3 l4 s
      | _ => none)]) (ga_sp_T (List.forall_mem_cons.mpr ⟨fun L S s1 h => (by
      dsimp only at h
      split at h
      · exact ih _ _ _  S s1 _ h
      · cases h), fun _ h => nomatch h⟩)) (n := 600) h)
set_option maxRecDepth 100000 in
theorem t_X7_lessonsWith_27 (a : Int32) (s : ga_M) (r : Int32) (h : f_X7_lessonsWith_27 a s = some r) : T_X7_lessonsWith gaSH s gp_kI (0, [some (.ref 1), some (.ref 27), some (.int a), none, none], [], gaSH, s, 0, 0) r := (by
    rw [fe_X7_lessonsWith_27] at h
    exact ga_T_go (sp := ga_sp [(5, 0, 0, fun L s => match L with
      | [some (.ref 1), some (.ref 27), some (.int l2), some (.int l3), some (.int l4)] => f_X7_lessonsWith_27_h5 ga_fuel l2 l3 l4 s
      | _ => none)]) (ga_sp_T (List.forall_mem_cons.mpr ⟨fun L S s1 h => (by
      dsimp only at h
      split at h
      · exact t_X7_lessonsWith_27_h5 s ga_fuel _ _ _  S s1 _ h
      · cases h), fun _ h => nomatch h⟩)) (n := 600) h)
abbrev T_X3_supervisedLessons {α : Type} (P : ga_S) (s0 : ga_M) (K0 : ga_O → Option α) (cfg : ga_C) (r : α) : Prop := ga_T RX3 cX3_supervisedLessons (ga_lk cl_X3_supervisedLessons) gaGP gaCost (fun _ => []) gaCls 84 0 0 false true false none (fun S σ => S = P ∧ σ = s0) K0 cfg r
set_option maxRecDepth 100000 in
theorem t_X3_supervisedLessons (s : ga_M) (r : Int32) (h : f_X3_supervisedLessons s = some r) : T_X3_supervisedLessons gaSH s gp_kI (0, [some (.ref 20)], [], gaSH, s, 0, 0) r := (by
    rw [fe_X3_supervisedLessons] at h
    exact ga_T_go (sp := ga_sp []) (ga_sp_T (fun _ h => nomatch h)) (n := 600) h)
set_option maxRecDepth 100000 in
theorem t_X7_lessonsWith_23_h5 (s0 : ga_M) : ∀ (n : Nat) (l2 : Int32) (l3 : Int32) (l4 : Int32) (S : ga_S) (s : ga_M) (r : Int32), f_X7_lessonsWith_23_h5 n l2 l3 l4 s = some r → T_X7_lessonsWith gaSH s0 gp_kI (5, [some (.ref 1), some (.ref 23), some (.int l2), some (.int l3), some (.int l4)], [], S, s, 0, 0) r := by
  intro n
  induction n with
  | zero => intro l2 l3 l4 S s r h; cases h
  | succ n ih => intro l2 l3 l4 S s r h; exact ga_T_S fun hS => (by
    obtain ⟨rfl, rfl⟩ := hS
    exact ga_T_go (sp := ga_sp [(5, 0, 0, fun L s => match L with
      | [some (.ref 1), some (.ref 23), some (.int l2), some (.int l3), some (.int l4)] => f_X7_lessonsWith_23_h5 n l2 l3 l4 s
      | _ => none)]) (ga_sp_T (List.forall_mem_cons.mpr ⟨fun L S s1 h => (by
      dsimp only at h
      split at h
      · exact ih _ _ _  S s1 _ h
      · cases h), fun _ h => nomatch h⟩)) (n := 600) h)
set_option maxRecDepth 100000 in
theorem t_X7_lessonsWith_23 (a : Int32) (s : ga_M) (r : Int32) (h : f_X7_lessonsWith_23 a s = some r) : T_X7_lessonsWith gaSH s gp_kI (0, [some (.ref 1), some (.ref 23), some (.int a), none, none], [], gaSH, s, 0, 0) r := (by
    rw [fe_X7_lessonsWith_23] at h
    exact ga_T_go (sp := ga_sp [(5, 0, 0, fun L s => match L with
      | [some (.ref 1), some (.ref 23), some (.int l2), some (.int l3), some (.int l4)] => f_X7_lessonsWith_23_h5 ga_fuel l2 l3 l4 s
      | _ => none)]) (ga_sp_T (List.forall_mem_cons.mpr ⟨fun L S s1 h => (by
      dsimp only at h
      split at h
      · exact t_X7_lessonsWith_23_h5 s ga_fuel _ _ _  S s1 _ h
      · cases h), fun _ h => nomatch h⟩)) (n := 600) h)
abbrev T_X3_openLessons {α : Type} (P : ga_S) (s0 : ga_M) (K0 : ga_O → Option α) (cfg : ga_C) (r : α) : Prop := ga_T RX3 cX3_openLessons (ga_lk cl_X3_openLessons) gaGP gaCost (fun _ => []) gaCls 84 0 0 false true false none (fun S σ => S = P ∧ σ = s0) K0 cfg r
set_option maxRecDepth 100000 in
theorem t_X3_openLessons (s : ga_M) (r : Int32) (h : f_X3_openLessons s = some r) : T_X3_openLessons gaSH s gp_kI (0, [some (.ref 20)], [], gaSH, s, 0, 0) r := (by
    rw [fe_X3_openLessons] at h
    exact ga_T_go (sp := ga_sp []) (ga_sp_T (fun _ h => nomatch h)) (n := 600) h)
abbrev T_X11_count {α : Type} (P : ga_S) (s0 : ga_M) (K0 : ga_O → Option α) (cfg : ga_C) (r : α) : Prop := ga_T RX11 cX11_count (ga_lk cl_X11_count) gaGP gaCost (fun _ => []) gaCls 84 1 6 false true false none (fun S σ => S = P ∧ σ = s0) K0 cfg r
set_option maxRecDepth 100000 in
theorem t_X11_count (a : Int32) (s : ga_M) (r : Int32 ⊕ Nat) (h : f_X11_count a s = some r) : T_X11_count gaSH s gp_kIX (0, [some (.ref 0), some (.int a)], [], gaSH, s, 0, 0) r := (by
    rw [fe_X11_count] at h
    exact ga_T_go (sp := ga_sp []) (ga_sp_T (fun _ h => nomatch h)) (n := 600) h)
abbrev T_X11_lesson {α : Type} (P : ga_S) (s0 : ga_M) (K0 : ga_O → Option α) (cfg : ga_C) (r : α) : Prop := ga_T RX11 cX11_lesson (ga_lk cl_X11_lesson) gaGP gaCost (fun _ => []) gaCls 84 2 12 false true false none (fun S σ => S = P ∧ σ = s0) K0 cfg r
set_option maxRecDepth 100000 in
theorem t_X11_lesson (a : Int32) (b : Int32) (s : ga_M) (r : Int32 ⊕ Nat) (h : f_X11_lesson a b s = some r) : T_X11_lesson gaSH s gp_kIX (0, [some (.ref 0), some (.int a), some (.int b)], [], gaSH, s, 0, 0) r := (by
    rw [fe_X11_lesson] at h
    exact ga_T_go (sp := ga_sp []) (ga_sp_T (fun _ h => nomatch h)) (n := 600) h)
set_option maxRecDepth 100000 in
theorem t_X7_lessonsWith_16_h5 (s0 : ga_M) : ∀ (n : Nat) (l2 : Int32) (l3 : Int32) (l4 : Int32) (S : ga_S) (s : ga_M) (r : Int32), f_X7_lessonsWith_16_h5 n l2 l3 l4 s = some r → T_X7_lessonsWith gaSH s0 gp_kI (5, [some (.ref 1), some (.ref 16), some (.int l2), some (.int l3), some (.int l4)], [], S, s, 0, 0) r := by
  intro n
  induction n with
  | zero => intro l2 l3 l4 S s r h; cases h
  | succ n ih => intro l2 l3 l4 S s r h; exact ga_T_S fun hS => (by
    obtain ⟨rfl, rfl⟩ := hS
    exact ga_T_go (sp := ga_sp [(5, 0, 0, fun L s => match L with
      | [some (.ref 1), some (.ref 16), some (.int l2), some (.int l3), some (.int l4)] => f_X7_lessonsWith_16_h5 n l2 l3 l4 s
      | _ => none)]) (ga_sp_T (List.forall_mem_cons.mpr ⟨fun L S s1 h => (by
      dsimp only at h
      split at h
      · exact ih _ _ _  S s1 _ h
      · cases h), fun _ h => nomatch h⟩)) (n := 600) h)
set_option maxRecDepth 100000 in
theorem t_X7_lessonsWith_16 (a : Int32) (s : ga_M) (r : Int32) (h : f_X7_lessonsWith_16 a s = some r) : T_X7_lessonsWith gaSH s gp_kI (0, [some (.ref 1), some (.ref 16), some (.int a), none, none], [], gaSH, s, 0, 0) r := (by
    rw [fe_X7_lessonsWith_16] at h
    exact ga_T_go (sp := ga_sp [(5, 0, 0, fun L s => match L with
      | [some (.ref 1), some (.ref 16), some (.int l2), some (.int l3), some (.int l4)] => f_X7_lessonsWith_16_h5 ga_fuel l2 l3 l4 s
      | _ => none)]) (ga_sp_T (List.forall_mem_cons.mpr ⟨fun L S s1 h => (by
      dsimp only at h
      split at h
      · exact t_X7_lessonsWith_16_h5 s ga_fuel _ _ _  S s1 _ h
      · cases h), fun _ h => nomatch h⟩)) (n := 600) h)
abbrev T_X3_taughtBy {α : Type} (P : ga_S) (s0 : ga_M) (K0 : ga_O → Option α) (cfg : ga_C) (r : α) : Prop := ga_T RX3 cX3_taughtBy (ga_lk cl_X3_taughtBy) gaGP gaCost (fun _ => []) gaCls 84 0 0 false true false none (fun S σ => S = P ∧ σ = s0) K0 cfg r
set_option maxRecDepth 100000 in
theorem t_X3_taughtBy_h4 (s0 : ga_M) : ∀ (n : Nat) (l1 : Int32) (l2 : Int32) (l3 : Int32) (S : ga_S) (s : ga_M) (r : Int32), f_X3_taughtBy_h4 n l1 l2 l3 s = some r → T_X3_taughtBy gaSH s0 gp_kI (4, [some (.ref 20), some (.int l1), some (.int l2), some (.int l3)], [], S, s, 0, 0) r := by
  intro n
  induction n with
  | zero => intro l1 l2 l3 S s r h; cases h
  | succ n ih => intro l1 l2 l3 S s r h; exact ga_T_S fun hS => (by
    obtain ⟨rfl, rfl⟩ := hS
    exact ga_T_go (sp := ga_sp [(4, 0, 0, fun L s => match L with
      | [some (.ref 20), some (.int l1), some (.int l2), some (.int l3)] => f_X3_taughtBy_h4 n l1 l2 l3 s
      | _ => none)]) (ga_sp_T (List.forall_mem_cons.mpr ⟨fun L S s1 h => (by
      dsimp only at h
      split at h
      · exact ih _ _ _  S s1 _ h
      · cases h), fun _ h => nomatch h⟩)) (n := 600) h)
set_option maxRecDepth 100000 in
theorem t_X3_taughtBy (a : Int32) (s : ga_M) (r : Int32) (h : f_X3_taughtBy a s = some r) : T_X3_taughtBy gaSH s gp_kI (0, [some (.ref 20), some (.int a), none, none], [], gaSH, s, 0, 0) r := (by
    rw [fe_X3_taughtBy] at h
    exact ga_T_go (sp := ga_sp [(4, 0, 0, fun L s => match L with
      | [some (.ref 20), some (.int l1), some (.int l2), some (.int l3)] => f_X3_taughtBy_h4 ga_fuel l1 l2 l3 s
      | _ => none)]) (ga_sp_T (List.forall_mem_cons.mpr ⟨fun L S s1 h => (by
      dsimp only at h
      split at h
      · exact t_X3_taughtBy_h4 s ga_fuel _ _ _  S s1 _ h
      · cases h), fun _ h => nomatch h⟩)) (n := 600) h)
abbrev T_X11_teacher {α : Type} (P : ga_S) (s0 : ga_M) (K0 : ga_O → Option α) (cfg : ga_C) (r : α) : Prop := ga_T RX11 cX11_teacher (ga_lk cl_X11_teacher) gaGP gaCost (fun _ => []) gaCls 84 2 12 false true false none (fun S σ => S = P ∧ σ = s0) K0 cfg r
set_option maxRecDepth 100000 in
theorem t_X11_teacher (a : Int32) (b : Int32) (s : ga_M) (r : Int32 ⊕ Nat) (h : f_X11_teacher a b s = some r) : T_X11_teacher gaSH s gp_kIX (0, [some (.ref 0), some (.int a), some (.int b)], [], gaSH, s, 0, 0) r := (by
    rw [fe_X11_teacher] at h
    exact ga_T_go (sp := ga_sp []) (ga_sp_T (fun _ h => nomatch h)) (n := 600) h)
set_option maxRecDepth 100000 in
theorem t_X7_lessonsWith_25_h5 (s0 : ga_M) : ∀ (n : Nat) (l2 : Int32) (l3 : Int32) (l4 : Int32) (S : ga_S) (s : ga_M) (r : Int32), f_X7_lessonsWith_25_h5 n l2 l3 l4 s = some r → T_X7_lessonsWith gaSH s0 gp_kI (5, [some (.ref 1), some (.ref 25), some (.int l2), some (.int l3), some (.int l4)], [], S, s, 0, 0) r := by
  intro n
  induction n with
  | zero => intro l2 l3 l4 S s r h; cases h
  | succ n ih => intro l2 l3 l4 S s r h; exact ga_T_S fun hS => (by
    obtain ⟨rfl, rfl⟩ := hS
    exact ga_T_go (sp := ga_sp [(5, 0, 0, fun L s => match L with
      | [some (.ref 1), some (.ref 25), some (.int l2), some (.int l3), some (.int l4)] => f_X7_lessonsWith_25_h5 n l2 l3 l4 s
      | _ => none)]) (ga_sp_T (List.forall_mem_cons.mpr ⟨fun L S s1 h => (by
      dsimp only at h
      split at h
      · exact ih _ _ _  S s1 _ h
      · cases h), fun _ h => nomatch h⟩)) (n := 600) h)
set_option maxRecDepth 100000 in
theorem t_X7_lessonsWith_25 (a : Int32) (s : ga_M) (r : Int32) (h : f_X7_lessonsWith_25 a s = some r) : T_X7_lessonsWith gaSH s gp_kI (0, [some (.ref 1), some (.ref 25), some (.int a), none, none], [], gaSH, s, 0, 0) r := (by
    rw [fe_X7_lessonsWith_25] at h
    exact ga_T_go (sp := ga_sp [(5, 0, 0, fun L s => match L with
      | [some (.ref 1), some (.ref 25), some (.int l2), some (.int l3), some (.int l4)] => f_X7_lessonsWith_25_h5 ga_fuel l2 l3 l4 s
      | _ => none)]) (ga_sp_T (List.forall_mem_cons.mpr ⟨fun L S s1 h => (by
      dsimp only at h
      split at h
      · exact t_X7_lessonsWith_25_h5 s ga_fuel _ _ _  S s1 _ h
      · cases h), fun _ h => nomatch h⟩)) (n := 600) h)
abbrev T_X11_room {α : Type} (P : ga_S) (s0 : ga_M) (K0 : ga_O → Option α) (cfg : ga_C) (r : α) : Prop := ga_T RX11 cX11_room (ga_lk cl_X11_room) gaGP gaCost (fun _ => []) gaCls 84 2 12 false true false none (fun S σ => S = P ∧ σ = s0) K0 cfg r
set_option maxRecDepth 100000 in
theorem t_X11_room (a : Int32) (b : Int32) (s : ga_M) (r : Int32 ⊕ Nat) (h : f_X11_room a b s = some r) : T_X11_room gaSH s gp_kIX (0, [some (.ref 0), some (.int a), some (.int b)], [], gaSH, s, 0, 0) r := (by
    rw [fe_X11_room] at h
    exact ga_T_go (sp := ga_sp []) (ga_sp_T (fun _ h => nomatch h)) (n := 600) h)
set_option maxRecDepth 100000 in
theorem t_X7_lessonsWith_12_h5 (s0 : ga_M) : ∀ (n : Nat) (l2 : Int32) (l3 : Int32) (l4 : Int32) (S : ga_S) (s : ga_M) (r : Int32), f_X7_lessonsWith_12_h5 n l2 l3 l4 s = some r → T_X7_lessonsWith gaSH s0 gp_kI (5, [some (.ref 1), some (.ref 12), some (.int l2), some (.int l3), some (.int l4)], [], S, s, 0, 0) r := by
  intro n
  induction n with
  | zero => intro l2 l3 l4 S s r h; cases h
  | succ n ih => intro l2 l3 l4 S s r h; exact ga_T_S fun hS => (by
    obtain ⟨rfl, rfl⟩ := hS
    exact ga_T_go (sp := ga_sp [(5, 0, 0, fun L s => match L with
      | [some (.ref 1), some (.ref 12), some (.int l2), some (.int l3), some (.int l4)] => f_X7_lessonsWith_12_h5 n l2 l3 l4 s
      | _ => none)]) (ga_sp_T (List.forall_mem_cons.mpr ⟨fun L S s1 h => (by
      dsimp only at h
      split at h
      · exact ih _ _ _  S s1 _ h
      · cases h), fun _ h => nomatch h⟩)) (n := 600) h)
set_option maxRecDepth 100000 in
theorem t_X7_lessonsWith_12 (a : Int32) (s : ga_M) (r : Int32) (h : f_X7_lessonsWith_12 a s = some r) : T_X7_lessonsWith gaSH s gp_kI (0, [some (.ref 1), some (.ref 12), some (.int a), none, none], [], gaSH, s, 0, 0) r := (by
    rw [fe_X7_lessonsWith_12] at h
    exact ga_T_go (sp := ga_sp [(5, 0, 0, fun L s => match L with
      | [some (.ref 1), some (.ref 12), some (.int l2), some (.int l3), some (.int l4)] => f_X7_lessonsWith_12_h5 ga_fuel l2 l3 l4 s
      | _ => none)]) (ga_sp_T (List.forall_mem_cons.mpr ⟨fun L S s1 h => (by
      dsimp only at h
      split at h
      · exact t_X7_lessonsWith_12_h5 s ga_fuel _ _ _  S s1 _ h
      · cases h), fun _ h => nomatch h⟩)) (n := 600) h)
abbrev T_X11_subject {α : Type} (P : ga_S) (s0 : ga_M) (K0 : ga_O → Option α) (cfg : ga_C) (r : α) : Prop := ga_T RX11 cX11_subject (ga_lk cl_X11_subject) gaGP gaCost (fun _ => []) gaCls 84 1 6 false true false none (fun S σ => S = P ∧ σ = s0) K0 cfg r
set_option maxRecDepth 100000 in
theorem t_X11_subject (a : Int32) (b : Int32) (s : ga_M) (r : Int32 ⊕ Nat) (h : f_X11_subject a b s = some r) : T_X11_subject gaSH s gp_kIX (0, [some (.ref 0), some (.int a), some (.int b)], [], gaSH, s, 0, 0) r := (by
    rw [fe_X11_subject] at h
    exact ga_T_go (sp := ga_sp []) (ga_sp_T (fun _ h => nomatch h)) (n := 600) h)
abbrev T_X11_requireClass {α : Type} (P : ga_S) (s0 : ga_M) (K0 : ga_O → Option α) (cfg : ga_C) (r : α) : Prop := ga_T RX11 cX11_requireClass (ga_lk cl_X11_requireClass) gaGP gaCost (fun _ => []) gaCls 84 1 6 false true false none (fun S σ => S = P ∧ σ = s0) K0 cfg r
set_option maxRecDepth 100000 in
theorem t_X11_requireClass (a : Int32) (s : ga_M) (r : Option Nat) (h : f_X11_requireClass a s = some r) : T_X11_requireClass gaSH s gp_kVX (0, [some (.ref 0), some (.int a)], [], gaSH, s, 0, 0) r := (by
    rw [fe_X11_requireClass] at h
    exact ga_T_go (sp := ga_sp []) (ga_sp_T (fun _ h => nomatch h)) (n := 600) h)
abbrev T_X11_lessonOfClass {α : Type} (P : ga_S) (s0 : ga_M) (K0 : ga_O → Option α) (cfg : ga_C) (r : α) : Prop := ga_T RX11 cX11_lessonOfClass (ga_lk cl_X11_lessonOfClass) gaGP gaCost (fun _ => []) gaCls 84 2 12 false true false none (fun S σ => S = P ∧ σ = s0) K0 cfg r
set_option maxRecDepth 100000 in
theorem t_X11_lessonOfClass (a : Int32) (b : Int32) (s : ga_M) (r : Int32 ⊕ Nat) (h : f_X11_lessonOfClass a b s = some r) : T_X11_lessonOfClass gaSH s gp_kIX (0, [some (.ref 0), some (.int a), some (.int b)], [], gaSH, s, 0, 0) r := (by
    rw [fe_X11_lessonOfClass] at h
    exact ga_T_go (sp := ga_sp []) (ga_sp_T (fun _ h => nomatch h)) (n := 600) h)
abbrev T_X11_lessonOfTeacher {α : Type} (P : ga_S) (s0 : ga_M) (K0 : ga_O → Option α) (cfg : ga_C) (r : α) : Prop := ga_T RX11 cX11_lessonOfTeacher (ga_lk cl_X11_lessonOfTeacher) gaGP gaCost (fun _ => []) gaCls 84 2 12 false true false none (fun S σ => S = P ∧ σ = s0) K0 cfg r
set_option maxRecDepth 100000 in
theorem t_X11_lessonOfTeacher (a : Int32) (b : Int32) (s : ga_M) (r : Int32 ⊕ Nat) (h : f_X11_lessonOfTeacher a b s = some r) : T_X11_lessonOfTeacher gaSH s gp_kIX (0, [some (.ref 0), some (.int a), some (.int b)], [], gaSH, s, 0, 0) r := (by
    rw [fe_X11_lessonOfTeacher] at h
    exact ga_T_go (sp := ga_sp []) (ga_sp_T (fun _ h => nomatch h)) (n := 600) h)
abbrev T_X11_lessonInRoom {α : Type} (P : ga_S) (s0 : ga_M) (K0 : ga_O → Option α) (cfg : ga_C) (r : α) : Prop := ga_T RX11 cX11_lessonInRoom (ga_lk cl_X11_lessonInRoom) gaGP gaCost (fun _ => []) gaCls 84 2 12 false true false none (fun S σ => S = P ∧ σ = s0) K0 cfg r
set_option maxRecDepth 100000 in
theorem t_X11_lessonInRoom (a : Int32) (b : Int32) (s : ga_M) (r : Int32 ⊕ Nat) (h : f_X11_lessonInRoom a b s = some r) : T_X11_lessonInRoom gaSH s gp_kIX (0, [some (.ref 0), some (.int a), some (.int b)], [], gaSH, s, 0, 0) r := (by
    rw [fe_X11_lessonInRoom] at h
    exact ga_T_go (sp := ga_sp []) (ga_sp_T (fun _ h => nomatch h)) (n := 600) h)
abbrev T_X11_freeTeachers {α : Type} (P : ga_S) (s0 : ga_M) (K0 : ga_O → Option α) (cfg : ga_C) (r : α) : Prop := ga_T RX11 cX11_freeTeachers (ga_lk cl_X11_freeTeachers) gaGP gaCost (fun _ => []) gaCls 84 1 6 false true false none (fun S σ => S = P ∧ σ = s0) K0 cfg r
set_option maxRecDepth 100000 in
theorem t_X11_freeTeachers_h9 (s0 : ga_M) : ∀ (n : Nat) (l1 : Int32) (l2 : Int32) (l3 : Int32) (S : ga_S) (s : ga_M) (r : Int32 ⊕ Nat), f_X11_freeTeachers_h9 n l1 l2 l3 s = some r → T_X11_freeTeachers gaSH s0 gp_kIX (9, [some (.ref 0), some (.int l1), some (.int l2), some (.int l3)], [], S, s, 1, 6) r := by
  intro n
  induction n with
  | zero => intro l1 l2 l3 S s r h; cases h
  | succ n ih => intro l1 l2 l3 S s r h; exact ga_T_S fun hS => (by
    obtain ⟨rfl, rfl⟩ := hS
    exact ga_T_go (sp := ga_sp [(9, 1, 6, fun L s => match L with
      | [some (.ref 0), some (.int l1), some (.int l2), some (.int l3)] => f_X11_freeTeachers_h9 n l1 l2 l3 s
      | _ => none)]) (ga_sp_T (List.forall_mem_cons.mpr ⟨fun L S s1 h => (by
      dsimp only at h
      split at h
      · exact ih _ _ _  S s1 _ h
      · cases h), fun _ h => nomatch h⟩)) (n := 600) h)
set_option maxRecDepth 100000 in
theorem t_X11_freeTeachers (a : Int32) (s : ga_M) (r : Int32 ⊕ Nat) (h : f_X11_freeTeachers a s = some r) : T_X11_freeTeachers gaSH s gp_kIX (0, [some (.ref 0), some (.int a), none, none], [], gaSH, s, 0, 0) r := (by
    rw [fe_X11_freeTeachers] at h
    exact ga_T_go (sp := ga_sp [(9, 1, 6, fun L s => match L with
      | [some (.ref 0), some (.int l1), some (.int l2), some (.int l3)] => f_X11_freeTeachers_h9 ga_fuel l1 l2 l3 s
      | _ => none)]) (ga_sp_T (List.forall_mem_cons.mpr ⟨fun L S s1 h => (by
      dsimp only at h
      split at h
      · exact t_X11_freeTeachers_h9 s ga_fuel _ _ _  S s1 _ h
      · cases h), fun _ h => nomatch h⟩)) (n := 600) h)
abbrev T_X11_freeRooms {α : Type} (P : ga_S) (s0 : ga_M) (K0 : ga_O → Option α) (cfg : ga_C) (r : α) : Prop := ga_T RX11 cX11_freeRooms (ga_lk cl_X11_freeRooms) gaGP gaCost (fun _ => []) gaCls 84 2 12 false true false none (fun S σ => S = P ∧ σ = s0) K0 cfg r
set_option maxRecDepth 100000 in
theorem t_X11_freeRooms_h30 (s0 : ga_M) : ∀ (n : Nat) (l1 : Int32) (l2 : Int32) (l3 : Int32) (l4 : Int32) (S : ga_S) (s : ga_M) (r : Int32 ⊕ Nat), f_X11_freeRooms_h30 n l1 l2 l3 l4 s = some r → T_X11_freeRooms gaSH s0 gp_kIX (30, [some (.ref 0), some (.int l1), some (.int l2), some (.int l3), some (.int l4)], [], S, s, 1, 6) r := by
  intro n
  induction n with
  | zero => intro l1 l2 l3 l4 S s r h; cases h
  | succ n ih => intro l1 l2 l3 l4 S s r h; exact ga_T_S fun hS => (by
    obtain ⟨rfl, rfl⟩ := hS
    exact ga_T_go (sp := ga_sp [(30, 1, 6, fun L s => match L with
      | [some (.ref 0), some (.int l1), some (.int l2), some (.int l3), some (.int l4)] => f_X11_freeRooms_h30 n l1 l2 l3 l4 s
      | _ => none)]) (ga_sp_T (List.forall_mem_cons.mpr ⟨fun L S s1 h => (by
      dsimp only at h
      split at h
      · exact ih _ _ _ _  S s1 _ h
      · cases h), fun _ h => nomatch h⟩)) (n := 600) h)
set_option maxRecDepth 100000 in
theorem t_X11_freeRooms (a : Int32) (b : Int32) (s : ga_M) (r : Int32 ⊕ Nat) (h : f_X11_freeRooms a b s = some r) : T_X11_freeRooms gaSH s gp_kIX (0, [some (.ref 0), some (.int a), some (.int b), none, none], [], gaSH, s, 0, 0) r := (by
    rw [fe_X11_freeRooms] at h
    exact ga_T_go (sp := ga_sp [(30, 1, 6, fun L s => match L with
      | [some (.ref 0), some (.int l1), some (.int l2), some (.int l3), some (.int l4)] => f_X11_freeRooms_h30 ga_fuel l1 l2 l3 l4 s
      | _ => none)]) (ga_sp_T (List.forall_mem_cons.mpr ⟨fun L S s1 h => (by
      dsimp only at h
      split at h
      · exact t_X11_freeRooms_h30 s ga_fuel _ _ _ _  S s1 _ h
      · cases h), fun _ h => nomatch h⟩)) (n := 600) h)
abbrev T_X3_windowsOf {α : Type} (P : ga_S) (s0 : ga_M) (K0 : ga_O → Option α) (cfg : ga_C) (r : α) : Prop := ga_T RX3 cX3_windowsOf (ga_lk cl_X3_windowsOf) gaGP gaCost (fun _ => []) gaCls 84 0 0 false true false none (fun S σ => S = P ∧ σ = s0) K0 cfg r
set_option maxRecDepth 100000 in
theorem t_X3_windowsOf_23_h12 (s0 : ga_M) : ∀ (n : Nat) (l2 : Int32) (l3 : Int32) (l4 : Int32) (l5 : Int32) (l6 : Int32) (l7 : Int32) (S : ga_S) (s : ga_M) (r : Int32), f_X3_windowsOf_23_h12 n l2 l3 l4 l5 l6 l7 s = some r → T_X3_windowsOf gaSH s0 gp_kI (12, [some (.ref 20), some (.ref 23), some (.int l2), some (.int l3), some (.int l4), some (.int l5), some (.int l6), some (.int l7)], [], S, s, 0, 0) r := by
  intro n
  induction n with
  | zero => intro l2 l3 l4 l5 l6 l7 S s r h; cases h
  | succ n ih => intro l2 l3 l4 l5 l6 l7 S s r h; exact ga_T_S fun hS => (by
    obtain ⟨rfl, rfl⟩ := hS
    exact ga_T_go (sp := ga_sp [(12, 0, 0, fun L s => match L with
      | [some (.ref 20), some (.ref 23), some (.int l2), some (.int l3), some (.int l4), some (.int l5), some (.int l6), some (.int l7)] => f_X3_windowsOf_23_h12 n l2 l3 l4 l5 l6 l7 s
      | _ => none)]) (ga_sp_T (List.forall_mem_cons.mpr ⟨fun L S s1 h => (by
      dsimp only at h
      split at h
      · exact ih _ _ _ _ _ _  S s1 _ h
      · cases h), fun _ h => nomatch h⟩)) (n := 600) h)
set_option maxRecDepth 100000 in
theorem t_X3_windowsOf_23 (a : Int32) (b : Int32) (s : ga_M) (r : Int32) (h : f_X3_windowsOf_23 a b s = some r) : T_X3_windowsOf gaSH s gp_kI (0, [some (.ref 20), some (.ref 23), some (.int a), some (.int b), none, none, none, none], [], gaSH, s, 0, 0) r := (by
    rw [fe_X3_windowsOf_23] at h
    exact ga_T_go (sp := ga_sp [(12, 0, 0, fun L s => match L with
      | [some (.ref 20), some (.ref 23), some (.int l2), some (.int l3), some (.int l4), some (.int l5), some (.int l6), some (.int l7)] => f_X3_windowsOf_23_h12 ga_fuel l2 l3 l4 l5 l6 l7 s
      | _ => none)]) (ga_sp_T (List.forall_mem_cons.mpr ⟨fun L S s1 h => (by
      dsimp only at h
      split at h
      · exact t_X3_windowsOf_23_h12 s ga_fuel _ _ _ _ _ _  S s1 _ h
      · cases h), fun _ h => nomatch h⟩)) (n := 600) h)
abbrev T_X11_windows {α : Type} (P : ga_S) (s0 : ga_M) (K0 : ga_O → Option α) (cfg : ga_C) (r : α) : Prop := ga_T RX11 cX11_windows (ga_lk cl_X11_windows) gaGP gaCost (fun _ => []) gaCls 84 2 12 false true false none (fun S σ => S = P ∧ σ = s0) K0 cfg r
set_option maxRecDepth 100000 in
theorem t_X11_windows (a : Int32) (b : Int32) (s : ga_M) (r : Int32 ⊕ Nat) (h : f_X11_windows a b s = some r) : T_X11_windows gaSH s gp_kIX (0, [some (.ref 0), some (.int a), some (.int b)], [], gaSH, s, 0, 0) r := (by
    rw [fe_X11_windows] at h
    exact ga_T_go (sp := ga_sp []) (ga_sp_T (fun _ h => nomatch h)) (n := 600) h)
abbrev T_J9_max_7cf53 {α : Type} (P : ga_S) (s0 : ga_M) (K0 : ga_O → Option α) (cfg : ga_C) (r : α) : Prop := ga_T RJ9 cJ9_max_7cf53 (ga_lk cl_J9_max_7cf53) gaGP gaCost (fun _ => []) gaCls 84 0 0 false true false none (fun S σ => S = P ∧ σ = s0) K0 cfg r
set_option maxRecDepth 100000 in
theorem t_J9_max_7cf53 (a : Int32) (b : Int32) (s : ga_M) (r : Int32) (h : f_J9_max_7cf53 a b s = some r) : T_J9_max_7cf53 gaSH s gp_kI (0, [some (.int a), some (.int b)], [], gaSH, s, 0, 0) r := (by
    rw [fe_J9_max_7cf53] at h
    exact ga_T_go (sp := ga_sp []) (ga_sp_T (fun _ h => nomatch h)) (n := 600) h)
abbrev T_X11_spread {α : Type} (P : ga_S) (s0 : ga_M) (K0 : ga_O → Option α) (cfg : ga_C) (r : α) : Prop := ga_T RX11 cX11_spread (ga_lk cl_X11_spread) gaGP gaCost (fun _ => []) gaCls 84 0 0 false true false none (fun S σ => S = P ∧ σ = s0) K0 cfg r
set_option maxRecDepth 100000 in
theorem t_X11_spread_h9 (s0 : ga_M) : ∀ (n : Nat) (l1 : Int32) (l2 : Int32) (l3 : Int32) (l4 : Int32) (w0 : Option Value) (S : ga_S) (s : ga_M) (r : Int32), f_X11_spread_h9 n l1 l2 l3 l4 s = some r → T_X11_spread gaSH s0 gp_kI (9, [some (.ref 0), some (.int l1), some (.int l2), some (.int l3), some (.int l4), w0], [], S, s, 0, 0) r := by
  intro n
  induction n with
  | zero => intro l1 l2 l3 l4 w0 S s r h; cases h
  | succ n ih => intro l1 l2 l3 l4 w0 S s r h; exact ga_T_S fun hS => (by
    obtain ⟨rfl, rfl⟩ := hS
    exact ga_T_go (sp := ga_sp [(9, 0, 0, fun L s => match L with
      | [some (.ref 0), some (.int l1), some (.int l2), some (.int l3), some (.int l4), _] => f_X11_spread_h9 n l1 l2 l3 l4 s
      | _ => none)]) (ga_sp_T (List.forall_mem_cons.mpr ⟨fun L S s1 h => (by
      dsimp only at h
      split at h
      · exact ih _ _ _ _ _ S s1 _ h
      · cases h), fun _ h => nomatch h⟩)) (n := 600) h)
set_option maxRecDepth 100000 in
theorem t_X11_spread (s : ga_M) (r : Int32) (h : f_X11_spread s = some r) : T_X11_spread gaSH s gp_kI (0, [some (.ref 0), none, none, none, none, none], [], gaSH, s, 0, 0) r := (by
    rw [fe_X11_spread] at h
    exact ga_T_go (sp := ga_sp [(9, 0, 0, fun L s => match L with
      | [some (.ref 0), some (.int l1), some (.int l2), some (.int l3), some (.int l4), _] => f_X11_spread_h9 ga_fuel l1 l2 l3 l4 s
      | _ => none)]) (ga_sp_T (List.forall_mem_cons.mpr ⟨fun L S s1 h => (by
      dsimp only at h
      split at h
      · exact t_X11_spread_h9 s ga_fuel _ _ _ _ _ S s1 _ h
      · cases h), fun _ h => nomatch h⟩)) (n := 600) h)
abbrev T_X3_taughtLessons {α : Type} (P : ga_S) (s0 : ga_M) (K0 : ga_O → Option α) (cfg : ga_C) (r : α) : Prop := ga_T RX3 cX3_taughtLessons (ga_lk cl_X3_taughtLessons) gaGP gaCost (fun _ => []) gaCls 84 0 0 false true false none (fun S σ => S = P ∧ σ = s0) K0 cfg r
set_option maxRecDepth 100000 in
theorem t_X3_taughtLessons (s : ga_M) (r : Int32) (h : f_X3_taughtLessons s = some r) : T_X3_taughtLessons gaSH s gp_kI (0, [some (.ref 20)], [], gaSH, s, 0, 0) r := (by
    rw [fe_X3_taughtLessons] at h
    exact ga_T_go (sp := ga_sp []) (ga_sp_T (fun _ h => nomatch h)) (n := 600) h)
abbrev T_X11_taughtShare {α : Type} (P : ga_S) (s0 : ga_M) (K0 : ga_O → Option α) (cfg : ga_C) (r : α) : Prop := ga_T RX11 cX11_taughtShare (ga_lk cl_X11_taughtShare) gaGP gaCost (fun _ => []) gaCls 84 0 0 false true false none (fun S σ => S = P ∧ σ = s0) K0 cfg r
set_option maxRecDepth 100000 in
theorem t_X11_taughtShare (s : ga_M) (r : UInt64) (h : f_X11_taughtShare s = some r) : T_X11_taughtShare gaSH s gp_kD (0, [some (.ref 0)], [], gaSH, s, 0, 0) r := (by
    rw [fe_X11_taughtShare] at h
    exact ga_T_go (sp := ga_sp []) (ga_sp_T (fun _ h => nomatch h)) (n := 600) h)
abbrev T_X5_append {α : Type} (P : ga_S) (K0 : ga_O → Option α) (cfg : ga_C) (r : α) : Prop := ga_T RX5 cX5_append (ga_lk cl_X5_append) gaG gaCost (fun _ => []) gaCls 84 0 0 false true true none (fun S _ => S = P) K0 cfg r
set_option maxRecDepth 100000 in
theorem t_X5_append (a : Int32) (s : ga_M) (r : ga_M) (h : f_X5_append a s = some r) : T_X5_append gaSH ga_kV (0, [some (.ref 69), some (.int a)], [], gaSH, s, 0, 0) r := (by
    rw [fe_X5_append] at h
    exact ga_T_go (sp := ga_sp []) (ga_sp_T (fun _ h => nomatch h)) (n := 600) h)
abbrev T_X5_writeLesson {α : Type} (P : ga_S) (K0 : ga_O → Option α) (cfg : ga_C) (r : α) : Prop := ga_T RX5 cX5_writeLesson (ga_lk cl_X5_writeLesson) gaG gaCost (fun _ => []) gaCls 84 0 0 false true true none (fun S _ => S = P) K0 cfg r
set_option maxRecDepth 100000 in
theorem t_X5_writeLesson (a : Int32) (s : ga_M) (r : ga_M) (h : f_X5_writeLesson a s = some r) : T_X5_writeLesson gaSH ga_kV (0, [some (.ref 69), some (.int a)], [], gaSH, s, 0, 0) r := (by
    rw [fe_X5_writeLesson] at h
    exact ga_T_go (sp := ga_sp []) (ga_sp_T (fun _ h => nomatch h)) (n := 600) h)
abbrev T_X5_write {α : Type} (P : ga_S) (K0 : ga_O → Option α) (cfg : ga_C) (r : α) : Prop := ga_T RX5 cX5_write (ga_lk cl_X5_write) gaG gaCost (fun _ => []) gaCls 84 0 0 false true true none (fun S _ => S = P) K0 cfg r
set_option maxRecDepth 100000 in
theorem t_X5_write_h20 {go7 : Int32 → Int32 → ga_M → Option (ga_M)} (hgo7 : ∀ (l1 : Int32) (l2 : Int32) (w0 : Option Value) (S : ga_S) (s : ga_M) (r : ga_M), go7 l1 l2 s = some r → T_X5_write gaSH ga_kV (7, [some (.ref 69), some (.int l1), some (.int l2), w0], [], S, s, 0, 0) r) : ∀ (n : Nat) (l1 : Int32) (l2 : Int32) (l3 : Int32) (S : ga_S) (s : ga_M) (r : ga_M), f_X5_write_h20 go7 n l1 l2 l3 s = some r → T_X5_write gaSH ga_kV (20, [some (.ref 69), some (.int l1), some (.int l2), some (.int l3)], [], S, s, 0, 0) r := by
  intro n
  induction n with
  | zero => intro l1 l2 l3 S s r h; cases h
  | succ n ih => intro l1 l2 l3 S s r h; exact ga_T_S fun hS => (by
    cases hS
    exact ga_T_go (sp := ga_sp [(7, 0, 0, fun L s => match L with
      | [some (.ref 69), some (.int l1), some (.int l2), _] => go7 l1 l2 s
      | _ => none), (20, 0, 0, fun L s => match L with
      | [some (.ref 69), some (.int l1), some (.int l2), some (.int l3)] => f_X5_write_h20 go7 n l1 l2 l3 s
      | _ => none)]) (ga_sp_T (List.forall_mem_cons.mpr ⟨fun L S s1 h => (by
      dsimp only at h
      split at h
      · exact hgo7 _ _ _ S s1 _ h
      · cases h), List.forall_mem_cons.mpr ⟨fun L S s1 h => (by
      dsimp only at h
      split at h
      · exact ih _ _ _  S s1 _ h
      · cases h), fun _ h => nomatch h⟩⟩)) (n := 600) h)
set_option maxRecDepth 100000 in
theorem t_X5_write_h7 : ∀ (n : Nat) (l1 : Int32) (l2 : Int32) (w0 : Option Value) (S : ga_S) (s : ga_M) (r : ga_M), f_X5_write_h7 n l1 l2 s = some r → T_X5_write gaSH ga_kV (7, [some (.ref 69), some (.int l1), some (.int l2), w0], [], S, s, 0, 0) r := by
  intro n
  induction n with
  | zero => intro l1 l2 w0 S s r h; cases h
  | succ n ih => intro l1 l2 w0 S s r h; exact ga_T_S fun hS => (by
    cases hS
    exact ga_T_go (sp := ga_sp [(20, 0, 0, fun L s => match L with
      | [some (.ref 69), some (.int l1), some (.int l2), some (.int l3)] => f_X5_write_h20 (f_X5_write_h7 n) ga_fuel l1 l2 l3 s
      | _ => none)]) (ga_sp_T (List.forall_mem_cons.mpr ⟨fun L S s1 h => (by
      dsimp only at h
      split at h
      · exact t_X5_write_h20 ih ga_fuel _ _ _  S s1 _ h
      · cases h), fun _ h => nomatch h⟩)) (n := 600) h)
set_option maxRecDepth 100000 in
theorem t_X5_write (a : Int32) (s : ga_M) (r : ga_M) (h : f_X5_write a s = some r) : T_X5_write gaSH ga_kV (0, [some (.ref 69), some (.int a), none, none], [], gaSH, s, 0, 0) r := (by
    rw [fe_X5_write] at h
    exact ga_T_go (sp := ga_sp [(7, 0, 0, fun L s => match L with
      | [some (.ref 69), some (.int l1), some (.int l2), _] => f_X5_write_h7 ga_fuel l1 l2 s
      | _ => none)]) (ga_sp_T (List.forall_mem_cons.mpr ⟨fun L S s1 h => (by
      dsimp only at h
      split at h
      · exact t_X5_write_h7 ga_fuel _ _ _ S s1 _ h
      · cases h), fun _ h => nomatch h⟩)) (n := 600) h)
abbrev T_X11_writeReport {α : Type} (P : ga_S) (K0 : ga_O → Option α) (cfg : ga_C) (r : α) : Prop := ga_T RX11 cX11_writeReport (ga_lk cl_X11_writeReport) gaG gaCost (fun _ => []) gaCls 84 1 6 false true true none (fun S _ => S = P) K0 cfg r
set_option maxRecDepth 100000 in
theorem t_X11_writeReport (a : Int32) (s : ga_M) (r : (Int32 ⊕ Nat) × ga_M) (h : f_X11_writeReport a s = some r) : T_X11_writeReport gaSH ga_kIX (0, [some (.ref 0), some (.int a)], [], gaSH, s, 0, 0) r := (by
    rw [fe_X11_writeReport] at h
    exact ga_T_go (sp := ga_sp []) (ga_sp_T (fun _ h => nomatch h)) (n := 600) h)
abbrev T_X1_restoreMarked {α : Type} (P : ga_S) (K0 : ga_O → Option α) (cfg : ga_C) (r : α) : Prop := ga_T RX1 cX1_restoreMarked (ga_lk cl_X1_restoreMarked) gaG gaCost (fun _ => []) gaCls 84 0 0 false true true none (fun S _ => S = P) K0 cfg r
set_option maxRecDepth 100000 in
theorem t_X1_restoreMarked_h123 : ∀ (n : Nat) (l1 : Int32) (l2 : Int32) (S : ga_S) (s : ga_M) (r : ga_M), f_X1_restoreMarked_h123 n l1 l2 s = some r → T_X1_restoreMarked gaSH ga_kV (123, [some (.ref 42), some (.int l1), some (.int l2)], [], S, s, 0, 0) r := by
  intro n
  induction n with
  | zero => intro l1 l2 S s r h; cases h
  | succ n ih => intro l1 l2 S s r h; exact ga_T_S fun hS => (by
    cases hS
    exact ga_T_go (sp := ga_sp [(123, 0, 0, fun L s => match L with
      | [some (.ref 42), some (.int l1), some (.int l2)] => f_X1_restoreMarked_h123 n l1 l2 s
      | _ => none)]) (ga_sp_T (List.forall_mem_cons.mpr ⟨fun L S s1 h => (by
      dsimp only at h
      split at h
      · exact ih _ _  S s1 _ h
      · cases h), fun _ h => nomatch h⟩)) (n := 600) h)
set_option maxRecDepth 100000 in
theorem t_X1_restoreMarked_h11 : ∀ (n : Nat) (l1 : Int32) (l2 : Int32) (S : ga_S) (s : ga_M) (r : ga_M), f_X1_restoreMarked_h11 n l1 l2 s = some r → T_X1_restoreMarked gaSH ga_kV (11, [some (.ref 42), some (.int l1), some (.int l2)], [], S, s, 0, 0) r := by
  intro n
  induction n with
  | zero => intro l1 l2 S s r h; cases h
  | succ n ih => intro l1 l2 S s r h; exact ga_T_S fun hS => (by
    cases hS
    exact ga_T_go (sp := ga_sp [(123, 0, 0, fun L s => match L with
      | [some (.ref 42), some (.int l1), some (.int l2)] => f_X1_restoreMarked_h123 ga_fuel l1 l2 s
      | _ => none), (11, 0, 0, fun L s => match L with
      | [some (.ref 42), some (.int l1), some (.int l2)] => f_X1_restoreMarked_h11 n l1 l2 s
      | _ => none)]) (ga_sp_T (List.forall_mem_cons.mpr ⟨fun L S s1 h => (by
      dsimp only at h
      split at h
      · exact t_X1_restoreMarked_h123 ga_fuel _ _  S s1 _ h
      · cases h), List.forall_mem_cons.mpr ⟨fun L S s1 h => (by
      dsimp only at h
      split at h
      · exact ih _ _  S s1 _ h
      · cases h), fun _ h => nomatch h⟩⟩)) (n := 600) h)
set_option maxRecDepth 100000 in
theorem t_X1_restoreMarked (s : ga_M) (r : ga_M) (h : f_X1_restoreMarked s = some r) : T_X1_restoreMarked gaSH ga_kV (0, [some (.ref 42), none, none], [], gaSH, s, 0, 0) r := (by
    rw [fe_X1_restoreMarked] at h
    exact ga_T_go (sp := ga_sp [(11, 0, 0, fun L s => match L with
      | [some (.ref 42), some (.int l1), some (.int l2)] => f_X1_restoreMarked_h11 ga_fuel l1 l2 s
      | _ => none)]) (ga_sp_T (List.forall_mem_cons.mpr ⟨fun L S s1 h => (by
      dsimp only at h
      split at h
      · exact t_X1_restoreMarked_h11 ga_fuel _ _  S s1 _ h
      · cases h), fun _ h => nomatch h⟩)) (n := 600) h)
abbrev T_X1_restoreLatest {α : Type} (P : ga_S) (K0 : ga_O → Option α) (cfg : ga_C) (r : α) : Prop := ga_T RX1 cX1_restoreLatest (ga_lk cl_X1_restoreLatest) gaG gaCost (fun _ => []) gaCls 84 0 0 false true true none (fun S _ => S = P) K0 cfg r
set_option maxRecDepth 100000 in
theorem t_X1_restoreLatest (s : ga_M) (r : ga_M) (h : f_X1_restoreLatest s = some r) : T_X1_restoreLatest gaSH ga_kV (0, [some (.ref 42)], [], gaSH, s, 0, 0) r := (by
    rw [fe_X1_restoreLatest] at h
    exact ga_T_go (sp := ga_sp []) (ga_sp_T (fun _ h => nomatch h)) (n := 600) h)
abbrev T_X11_undo {α : Type} (P : ga_S) (K0 : ga_O → Option α) (cfg : ga_C) (r : α) : Prop := ga_T RX11 cX11_undo (ga_lk cl_X11_undo) gaG gaCost (fun _ => []) gaCls 84 1 6 false true true none (fun S _ => S = P) K0 cfg r
set_option maxRecDepth 100000 in
theorem t_X11_undo (s : ga_M) (r : (Int32 ⊕ Nat) × ga_M) (h : f_X11_undo s = some r) : T_X11_undo gaSH ga_kIX (0, [some (.ref 0)], [], gaSH, s, 0, 0) r := (by
    rw [fe_X11_undo] at h
    exact ga_T_go (sp := ga_sp []) (ga_sp_T (fun _ h => nomatch h)) (n := 600) h)
abbrev T_X11_undoDepth {α : Type} (P : ga_S) (s0 : ga_M) (K0 : ga_O → Option α) (cfg : ga_C) (r : α) : Prop := ga_T RX11 cX11_undoDepth (ga_lk cl_X11_undoDepth) gaGP gaCost (fun _ => []) gaCls 84 0 0 false true false none (fun S σ => S = P ∧ σ = s0) K0 cfg r
set_option maxRecDepth 100000 in
theorem t_X11_undoDepth (s : ga_M) (r : Int32) (h : f_X11_undoDepth s = some r) : T_X11_undoDepth gaSH s gp_kI (0, [some (.ref 0)], [], gaSH, s, 0, 0) r := (by
    rw [fe_X11_undoDepth] at h
    exact ga_T_go (sp := ga_sp []) (ga_sp_T (fun _ h => nomatch h)) (n := 600) h)
set_option maxRecDepth 100000 in
theorem t_X7_becomeEmpty (s : ga_M) (r : ga_M) (h : f_X7_becomeEmpty s = some r) : T_X7_becomeEmpty gaSH ga_kV (0, [some (.ref 1)], [], gaSH, s, 0, 0) r := (by
    rw [fe_X7_becomeEmpty] at h
    exact ga_T_go (sp := ga_sp []) (ga_sp_T (fun _ h => nomatch h)) (n := 600) h)
set_option maxRecDepth 100000 in
theorem t_X7_addSubject (a : Int32) (s : ga_M) (r : ga_M) (h : f_X7_addSubject a s = some r) : T_X7_addSubject gaSH ga_kV (0, [some (.ref 1), some (.int a)], [], gaSH, s, 0, 0) r := (by
    rw [fe_X7_addSubject] at h
    exact ga_T_go (sp := ga_sp []) (ga_sp_T (fun _ h => nomatch h)) (n := 600) h)
set_option maxRecDepth 100000 in
theorem t_X7_addTeacher (a : Int32) (b : Int32) (s : ga_M) (r : ga_M) (h : f_X7_addTeacher a b s = some r) : T_X7_addTeacher gaSH ga_kV (0, [some (.ref 1), some (.int a), some (.int b)], [], gaSH, s, 0, 0) r := (by
    rw [fe_X7_addTeacher] at h
    exact ga_T_go (sp := ga_sp []) (ga_sp_T (fun _ h => nomatch h)) (n := 600) h)
set_option maxRecDepth 100000 in
theorem t_X7_addRoom (a : Int32) (s : ga_M) (r : ga_M) (h : f_X7_addRoom a s = some r) : T_X7_addRoom gaSH ga_kV (0, [some (.ref 1), some (.int a)], [], gaSH, s, 0, 0) r := (by
    rw [fe_X7_addRoom] at h
    exact ga_T_go (sp := ga_sp []) (ga_sp_T (fun _ h => nomatch h)) (n := 600) h)
set_option maxRecDepth 100000 in
theorem t_X7_addLesson (a : Int32) (b : Int32) (c : Int32) (d : Int32) (e : Int32) (s : ga_M) (r : ga_M) (h : f_X7_addLesson a b c d e s = some r) : T_X7_addLesson gaSH ga_kV (0, [some (.ref 1), some (.int a), some (.int b), some (.int c), some (.int d), some (.int e)], [], gaSH, s, 0, 0) r := (by
    rw [fe_X7_addLesson] at h
    exact ga_T_go (sp := ga_sp []) (ga_sp_T (fun _ h => nomatch h)) (n := 600) h)
abbrev T_X7_becomeSample {α : Type} (P : ga_S) (K0 : ga_O → Option α) (cfg : ga_C) (r : α) : Prop := ga_T RX7 cX7_becomeSample (ga_lk cl_X7_becomeSample) gaG gaCost (fun _ => []) gaCls 84 0 0 false true true none (fun S _ => S = P) K0 cfg r
set_option maxRecDepth 100000 in
theorem t_X7_becomeSample (s : ga_M) (r : ga_M) (h : f_X7_becomeSample s = some r) : T_X7_becomeSample gaSH ga_kV (0, [some (.ref 1)], [], gaSH, s, 0, 0) r := (by
    rw [fe_X7_becomeSample] at h
    exact ga_T_go (sp := ga_sp []) (ga_sp_T (fun _ h => nomatch h)) (n := 600) h)
abbrev T_L_cover {α : Type} (P : ga_S) (K0 : ga_O → Option α) (cfg : ga_C) (r : α) : Prop := ga_T RL cL_cover (ga_lk cl_L_cover) gaG gaCost (fun pc => bif Nat.beq pc 3 then [(1, 8, 3)] else []) gaCls 84 3 18 false true true none (fun S _ => S = P) K0 cfg r
set_option maxRecDepth 100000 in
theorem t_L_cover_0 (a : Int32) (b : Int32) (s : ga_M) (r : (Int32 ⊕ Nat) × ga_M) (h : f_L_cover_0 a b s = some r) : T_L_cover gaSH ga_kIX (0, [some (.ref 0), some (.int a), some (.int b), none], [], gaSH, s, 0, 0) r := (by
    rw [fe_L_cover_0] at h
    exact ga_T_go (sp := ga_sp []) (ga_sp_T (fun _ h => nomatch h)) (n := 600) h)
abbrev T_L_supervise {α : Type} (P : ga_S) (K0 : ga_O → Option α) (cfg : ga_C) (r : α) : Prop := ga_T RL cL_supervise (ga_lk cl_L_supervise) gaG gaCost (fun pc => bif Nat.beq pc 3 then [(1, 8, 3)] else []) gaCls 84 3 18 false true true none (fun S _ => S = P) K0 cfg r
set_option maxRecDepth 100000 in
theorem t_L_supervise_0 (a : Int32) (b : Int32) (s : ga_M) (r : (Int32 ⊕ Nat) × ga_M) (h : f_L_supervise_0 a b s = some r) : T_L_supervise gaSH ga_kIX (0, [some (.ref 0), some (.int a), some (.int b), none], [], gaSH, s, 0, 0) r := (by
    rw [fe_L_supervise_0] at h
    exact ga_T_go (sp := ga_sp []) (ga_sp_T (fun _ h => nomatch h)) (n := 600) h)
abbrev T_L_repair {α : Type} (P : ga_S) (K0 : ga_O → Option α) (cfg : ga_C) (r : α) : Prop := ga_T RL cL_repair (ga_lk cl_L_repair) gaG gaCost (fun pc => bif Nat.beq pc 2 then [(1, 7, 2)] else []) gaCls 84 2 12 false true true none (fun S _ => S = P) K0 cfg r
set_option maxRecDepth 100000 in
theorem t_L_repair_0 (a : Int32) (s : ga_M) (r : (Int32 ⊕ Nat) × ga_M) (h : f_L_repair_0 a s = some r) : T_L_repair gaSH ga_kIX (0, [some (.ref 0), some (.int a), none], [], gaSH, s, 0, 0) r := (by
    rw [fe_L_repair_0] at h
    exact ga_T_go (sp := ga_sp []) (ga_sp_T (fun _ h => nomatch h)) (n := 600) h)
abbrev T_L_exchange {α : Type} (P : ga_S) (K0 : ga_O → Option α) (cfg : ga_C) (r : α) : Prop := ga_T RL cL_exchange (ga_lk cl_L_exchange) gaG gaCost (fun pc => bif Nat.beq pc 3 then [(1, 8, 3)] else []) gaCls 84 3 18 false true true none (fun S _ => S = P) K0 cfg r
set_option maxRecDepth 100000 in
theorem t_L_exchange_0 (a : Int32) (b : Int32) (s : ga_M) (r : (Int32 ⊕ Nat) × ga_M) (h : f_L_exchange_0 a b s = some r) : T_L_exchange gaSH ga_kIX (0, [some (.ref 0), some (.int a), some (.int b), none], [], gaSH, s, 0, 0) r := (by
    rw [fe_L_exchange_0] at h
    exact ga_T_go (sp := ga_sp []) (ga_sp_T (fun _ h => nomatch h)) (n := 600) h)
abbrev T_L_move {α : Type} (P : ga_S) (K0 : ga_O → Option α) (cfg : ga_C) (r : α) : Prop := ga_T RL cL_move (ga_lk cl_L_move) gaG gaCost (fun pc => bif Nat.beq pc 3 then [(1, 8, 3)] else []) gaCls 84 3 18 false true true none (fun S _ => S = P) K0 cfg r
set_option maxRecDepth 100000 in
theorem t_L_move_0 (a : Int32) (b : Int32) (s : ga_M) (r : (Int32 ⊕ Nat) × ga_M) (h : f_L_move_0 a b s = some r) : T_L_move gaSH ga_kIX (0, [some (.ref 0), some (.int a), some (.int b), none], [], gaSH, s, 0, 0) r := (by
    rw [fe_L_move_0] at h
    exact ga_T_go (sp := ga_sp []) (ga_sp_T (fun _ h => nomatch h)) (n := 600) h)
abbrev T_L_setRoom {α : Type} (P : ga_S) (K0 : ga_O → Option α) (cfg : ga_C) (r : α) : Prop := ga_T RL cL_setRoom (ga_lk cl_L_setRoom) gaG gaCost (fun pc => bif Nat.beq pc 3 then [(1, 8, 3)] else []) gaCls 84 3 18 false true true none (fun S _ => S = P) K0 cfg r
set_option maxRecDepth 100000 in
theorem t_L_setRoom_0 (a : Int32) (b : Int32) (s : ga_M) (r : (Int32 ⊕ Nat) × ga_M) (h : f_L_setRoom_0 a b s = some r) : T_L_setRoom gaSH ga_kIX (0, [some (.ref 0), some (.int a), some (.int b), none], [], gaSH, s, 0, 0) r := (by
    rw [fe_L_setRoom_0] at h
    exact ga_T_go (sp := ga_sp []) (ga_sp_T (fun _ h => nomatch h)) (n := 600) h)
