abbrev T_X12_room {α : Type} (P : ga_S) (K0 : ga_O → Option α) (cfg : ga_C) (r : α) : Prop := ga_T RX12 cX12_room (ga_lk cl_X12_room) gaG gaCost (fun _ => []) gaCls 83 0 0 false true true none (fun S _ => S = P) K0 cfg r
set_option maxRecDepth 100000 in
theorem t_X12_room_h65 : ∀ (n : Nat) (l1 : Int32) (l3 : Int32) (l4 : Int32) (w0 : Option Value) (S : ga_S) (s : ga_M) (r : Int32 × ga_M), f_X12_room_h65 n l1 l3 l4 s = some r → T_X12_room gaSH ga_kI (65, [some (.ref 72), some (.int l1), w0, some (.int l3), some (.int l4)], [], S, s, 0, 0) r := by
  intro n
  induction n with
  | zero => intro l1 l3 l4 w0 S s r h; cases h
  | succ n ih => intro l1 l3 l4 w0 S s r h; exact ga_T_S fun hS => (by
    cases hS
    exact ga_T_go (sp := ga_sp [(65, 0, 0, fun L s => match L with
      | [some (.ref 72), some (.int l1), _, some (.int l3), some (.int l4)] => f_X12_room_h65 n l1 l3 l4 s
      | _ => none)]) (ga_sp_T (List.forall_mem_cons.mpr ⟨fun L S s1 h => (by
      dsimp only at h
      split at h
      · exact ih _ _ _ _ S s1 _ h
      · cases h), fun _ h => nomatch h⟩)) (n := 600) h)
set_option maxRecDepth 100000 in
theorem t_X12_room (a : Int32) (b : Int32) (s : ga_M) (r : Int32 × ga_M) (h : f_X12_room a b s = some r) : T_X12_room gaSH ga_kI (0, [some (.ref 72), some (.int a), some (.int b), none, none], [], gaSH, s, 0, 0) r := (by
    rw [fe_X12_room] at h
    exact ga_T_go (sp := ga_sp [(65, 0, 0, fun L s => match L with
      | [some (.ref 72), some (.int l1), _, some (.int l3), some (.int l4)] => f_X12_room_h65 ga_fuel l1 l3 l4 s
      | _ => none)]) (ga_sp_T (List.forall_mem_cons.mpr ⟨fun L S s1 h => (by
      dsimp only at h
      split at h
      · exact t_X12_room_h65 ga_fuel _ _ _ _ S s1 _ h
      · cases h), fun _ h => nomatch h⟩)) (n := 600) h)
set_option maxRecDepth 100000 in
theorem t_X7_lessonsWith_12_h5 (s0 : ga_M) : ∀ (n : Nat) (l2 : Int32) (l3 : Int32) (l4 : Int32) (S : ga_S) (s : ga_M) (r : Int32), f_X7_lessonsWith_12_h5 n l2 l3 l4 s = some r → T_X7_lessonsWith gaSH s0 gp_kI (5, [some (.ref 1), some (.ref 12), some (.int l2), some (.int l3), some (.int l4)], [], S, s, 0, 0) r := by
  intro n
  induction n with
  | zero => intro l2 l3 l4 S s r h; cases h
  | succ n ih => intro l2 l3 l4 S s r h; exact ga_T_S fun hS => (by
    obtain ⟨rfl, rfl⟩ := hS
    exact ga_T_go (sp := ga_sp [(5, 0, 0, fun L s => match L with
      | [some (.ref 1), some (.ref 12), some (.int l2), some (.int l3), some (.int l4)] => f_X7_lessonsWith_12_h5 n l2 l3 l4 s
      | _ => none)]) (ga_sp_T (List.forall_mem_cons.mpr ⟨fun L S s1 h => (by
      dsimp only at h
      split at h
      · exact ih _ _ _  S s1 _ h
      · cases h), fun _ h => nomatch h⟩)) (n := 600) h)
set_option maxRecDepth 100000 in
theorem t_X7_lessonsWith_12 (a : Int32) (s : ga_M) (r : Int32) (h : f_X7_lessonsWith_12 a s = some r) : T_X7_lessonsWith gaSH s gp_kI (0, [some (.ref 1), some (.ref 12), some (.int a), none, none], [], gaSH, s, 0, 0) r := (by
    rw [fe_X7_lessonsWith_12] at h
    exact ga_T_go (sp := ga_sp [(5, 0, 0, fun L s => match L with
      | [some (.ref 1), some (.ref 12), some (.int l2), some (.int l3), some (.int l4)] => f_X7_lessonsWith_12_h5 ga_fuel l2 l3 l4 s
      | _ => none)]) (ga_sp_T (List.forall_mem_cons.mpr ⟨fun L S s1 h => (by
      dsimp only at h
      split at h
      · exact t_X7_lessonsWith_12_h5 s ga_fuel _ _ _  S s1 _ h
      · cases h), fun _ h => nomatch h⟩)) (n := 600) h)
abbrev T_X11_subject {α : Type} (P : ga_S) (s0 : ga_M) (K0 : ga_O → Option α) (cfg : ga_C) (r : α) : Prop := ga_T RX11 cX11_subject (ga_lk cl_X11_subject) gaGP gaCost (fun _ => []) gaCls 83 1 6 false true false none (fun S σ => S = P ∧ σ = s0) K0 cfg r
set_option maxRecDepth 100000 in
theorem t_X11_subject (a : Int32) (b : Int32) (s : ga_M) (r : Int32 ⊕ Nat) (h : f_X11_subject a b s = some r) : T_X11_subject gaSH s gp_kIX (0, [some (.ref 0), some (.int a), some (.int b)], [], gaSH, s, 0, 0) r := (by
    rw [fe_X11_subject] at h
    exact ga_T_go (sp := ga_sp []) (ga_sp_T (fun _ h => nomatch h)) (n := 600) h)
abbrev T_X12_subject {α : Type} (P : ga_S) (K0 : ga_O → Option α) (cfg : ga_C) (r : α) : Prop := ga_T RX12 cX12_subject (ga_lk cl_X12_subject) gaG gaCost (fun _ => []) gaCls 83 0 0 false true true none (fun S _ => S = P) K0 cfg r
set_option maxRecDepth 100000 in
theorem t_X12_subject_h128 : ∀ (n : Nat) (l1 : Int32) (l2 : Int32) (l3 : Int32) (l4 : Int32) (l5 : Int32) (S : ga_S) (s : ga_M) (r : Int32 × ga_M), f_X12_subject_h128 n l1 l2 l3 l4 l5 s = some r → T_X12_subject gaSH ga_kI (128, [some (.ref 72), some (.int l1), some (.int l2), some (.int l3), some (.int l4), some (.int l5)], [], S, s, 0, 0) r := by
  intro n
  induction n with
  | zero => intro l1 l2 l3 l4 l5 S s r h; cases h
  | succ n ih => intro l1 l2 l3 l4 l5 S s r h; exact ga_T_S fun hS => (by
    cases hS
    exact ga_T_go (sp := ga_sp [(128, 0, 0, fun L s => match L with
      | [some (.ref 72), some (.int l1), some (.int l2), some (.int l3), some (.int l4), some (.int l5)] => f_X12_subject_h128 n l1 l2 l3 l4 l5 s
      | _ => none)]) (ga_sp_T (List.forall_mem_cons.mpr ⟨fun L S s1 h => (by
      dsimp only at h
      split at h
      · exact ih _ _ _ _ _  S s1 _ h
      · cases h), fun _ h => nomatch h⟩)) (n := 600) h)
set_option maxRecDepth 100000 in
theorem t_X12_subject_h77 : ∀ (n : Nat) (l1 : Int32) (l2 : Int32) (l3 : Int32) (l4 : Int32) (w0 : Option Value) (S : ga_S) (s : ga_M) (r : Int32 × ga_M), f_X12_subject_h77 n l1 l2 l3 l4 s = some r → T_X12_subject gaSH ga_kI (77, [some (.ref 72), some (.int l1), some (.int l2), some (.int l3), some (.int l4), w0], [], S, s, 0, 0) r := by
  intro n
  induction n with
  | zero => intro l1 l2 l3 l4 w0 S s r h; cases h
  | succ n ih => intro l1 l2 l3 l4 w0 S s r h; exact ga_T_S fun hS => (by
    cases hS
    exact ga_T_go (sp := ga_sp [(128, 0, 0, fun L s => match L with
      | [some (.ref 72), some (.int l1), some (.int l2), some (.int l3), some (.int l4), some (.int l5)] => f_X12_subject_h128 ga_fuel l1 l2 l3 l4 l5 s
      | _ => none), (77, 0, 0, fun L s => match L with
      | [some (.ref 72), some (.int l1), some (.int l2), some (.int l3), some (.int l4), _] => f_X12_subject_h77 n l1 l2 l3 l4 s
      | _ => none)]) (ga_sp_T (List.forall_mem_cons.mpr ⟨fun L S s1 h => (by
      dsimp only at h
      split at h
      · exact t_X12_subject_h128 ga_fuel _ _ _ _ _  S s1 _ h
      · cases h), List.forall_mem_cons.mpr ⟨fun L S s1 h => (by
      dsimp only at h
      split at h
      · exact ih _ _ _ _ _ S s1 _ h
      · cases h), fun _ h => nomatch h⟩⟩)) (n := 600) h)
set_option maxRecDepth 100000 in
theorem t_X12_subject (a : Int32) (b : Int32) (s : ga_M) (r : Int32 × ga_M) (h : f_X12_subject a b s = some r) : T_X12_subject gaSH ga_kI (0, [some (.ref 72), some (.int a), some (.int b), none, none, none], [], gaSH, s, 0, 0) r := (by
    rw [fe_X12_subject] at h
    exact ga_T_go (sp := ga_sp [(77, 0, 0, fun L s => match L with
      | [some (.ref 72), some (.int l1), some (.int l2), some (.int l3), some (.int l4), _] => f_X12_subject_h77 ga_fuel l1 l2 l3 l4 s
      | _ => none)]) (ga_sp_T (List.forall_mem_cons.mpr ⟨fun L S s1 h => (by
      dsimp only at h
      split at h
      · exact t_X12_subject_h77 ga_fuel _ _ _ _ _ S s1 _ h
      · cases h), fun _ h => nomatch h⟩)) (n := 600) h)
abbrev T_X11_requireClass {α : Type} (P : ga_S) (s0 : ga_M) (K0 : ga_O → Option α) (cfg : ga_C) (r : α) : Prop := ga_T RX11 cX11_requireClass (ga_lk cl_X11_requireClass) gaGP gaCost (fun _ => []) gaCls 83 1 6 false true false none (fun S σ => S = P ∧ σ = s0) K0 cfg r
set_option maxRecDepth 100000 in
theorem t_X11_requireClass (a : Int32) (s : ga_M) (r : Option Nat) (h : f_X11_requireClass a s = some r) : T_X11_requireClass gaSH s gp_kVX (0, [some (.ref 0), some (.int a)], [], gaSH, s, 0, 0) r := (by
    rw [fe_X11_requireClass] at h
    exact ga_T_go (sp := ga_sp []) (ga_sp_T (fun _ h => nomatch h)) (n := 600) h)
abbrev T_X11_lessonOfClass {α : Type} (P : ga_S) (s0 : ga_M) (K0 : ga_O → Option α) (cfg : ga_C) (r : α) : Prop := ga_T RX11 cX11_lessonOfClass (ga_lk cl_X11_lessonOfClass) gaGP gaCost (fun _ => []) gaCls 83 2 12 false true false none (fun S σ => S = P ∧ σ = s0) K0 cfg r
set_option maxRecDepth 100000 in
theorem t_X11_lessonOfClass (a : Int32) (b : Int32) (s : ga_M) (r : Int32 ⊕ Nat) (h : f_X11_lessonOfClass a b s = some r) : T_X11_lessonOfClass gaSH s gp_kIX (0, [some (.ref 0), some (.int a), some (.int b)], [], gaSH, s, 0, 0) r := (by
    rw [fe_X11_lessonOfClass] at h
    exact ga_T_go (sp := ga_sp []) (ga_sp_T (fun _ h => nomatch h)) (n := 600) h)
abbrev T_X12_isClass {α : Type} (P : ga_S) (s0 : ga_M) (K0 : ga_O → Option α) (cfg : ga_C) (r : α) : Prop := ga_T RX12 cX12_isClass (ga_lk cl_X12_isClass) gaGP gaCost (fun _ => []) gaCls 83 0 0 false true false none (fun S σ => S = P ∧ σ = s0) K0 cfg r
set_option maxRecDepth 100000 in
theorem t_X12_isClass (a : Int32) (s : ga_M) (r : Int32) (h : f_X12_isClass a s = some r) : T_X12_isClass gaSH s gp_kI (0, [some (.ref 72), some (.int a)], [], gaSH, s, 0, 0) r := (by
    rw [fe_X12_isClass] at h
    exact ga_T_go (sp := ga_sp []) (ga_sp_T (fun _ h => nomatch h)) (n := 600) h)
abbrev T_X12_lessonOfClass {α : Type} (P : ga_S) (K0 : ga_O → Option α) (cfg : ga_C) (r : α) : Prop := ga_T RX12 cX12_lessonOfClass (ga_lk cl_X12_lessonOfClass) gaG gaCost (fun _ => []) gaCls 83 0 0 false true true none (fun S _ => S = P) K0 cfg r
set_option maxRecDepth 100000 in
theorem t_X12_lessonOfClass (a : Int32) (b : Int32) (s : ga_M) (r : Int32 × ga_M) (h : f_X12_lessonOfClass a b s = some r) : T_X12_lessonOfClass gaSH ga_kI (0, [some (.ref 72), some (.int a), some (.int b)], [], gaSH, s, 0, 0) r := (by
    rw [fe_X12_lessonOfClass] at h
    exact ga_T_go (sp := ga_sp []) (ga_sp_T (fun _ h => nomatch h)) (n := 600) h)
abbrev T_X11_lessonOfTeacher {α : Type} (P : ga_S) (s0 : ga_M) (K0 : ga_O → Option α) (cfg : ga_C) (r : α) : Prop := ga_T RX11 cX11_lessonOfTeacher (ga_lk cl_X11_lessonOfTeacher) gaGP gaCost (fun _ => []) gaCls 83 2 12 false true false none (fun S σ => S = P ∧ σ = s0) K0 cfg r
set_option maxRecDepth 100000 in
theorem t_X11_lessonOfTeacher (a : Int32) (b : Int32) (s : ga_M) (r : Int32 ⊕ Nat) (h : f_X11_lessonOfTeacher a b s = some r) : T_X11_lessonOfTeacher gaSH s gp_kIX (0, [some (.ref 0), some (.int a), some (.int b)], [], gaSH, s, 0, 0) r := (by
    rw [fe_X11_lessonOfTeacher] at h
    exact ga_T_go (sp := ga_sp []) (ga_sp_T (fun _ h => nomatch h)) (n := 600) h)
abbrev T_X12_lessonOfTeacher {α : Type} (P : ga_S) (K0 : ga_O → Option α) (cfg : ga_C) (r : α) : Prop := ga_T RX12 cX12_lessonOfTeacher (ga_lk cl_X12_lessonOfTeacher) gaG gaCost (fun _ => []) gaCls 83 0 0 false true true none (fun S _ => S = P) K0 cfg r
set_option maxRecDepth 100000 in
theorem t_X12_lessonOfTeacher (a : Int32) (b : Int32) (s : ga_M) (r : Int32 × ga_M) (h : f_X12_lessonOfTeacher a b s = some r) : T_X12_lessonOfTeacher gaSH ga_kI (0, [some (.ref 72), some (.int a), some (.int b)], [], gaSH, s, 0, 0) r := (by
    rw [fe_X12_lessonOfTeacher] at h
    exact ga_T_go (sp := ga_sp []) (ga_sp_T (fun _ h => nomatch h)) (n := 600) h)
abbrev T_X11_lessonInRoom {α : Type} (P : ga_S) (s0 : ga_M) (K0 : ga_O → Option α) (cfg : ga_C) (r : α) : Prop := ga_T RX11 cX11_lessonInRoom (ga_lk cl_X11_lessonInRoom) gaGP gaCost (fun _ => []) gaCls 83 2 12 false true false none (fun S σ => S = P ∧ σ = s0) K0 cfg r
set_option maxRecDepth 100000 in
theorem t_X11_lessonInRoom (a : Int32) (b : Int32) (s : ga_M) (r : Int32 ⊕ Nat) (h : f_X11_lessonInRoom a b s = some r) : T_X11_lessonInRoom gaSH s gp_kIX (0, [some (.ref 0), some (.int a), some (.int b)], [], gaSH, s, 0, 0) r := (by
    rw [fe_X11_lessonInRoom] at h
    exact ga_T_go (sp := ga_sp []) (ga_sp_T (fun _ h => nomatch h)) (n := 600) h)
abbrev T_X12_lessonInRoom {α : Type} (P : ga_S) (K0 : ga_O → Option α) (cfg : ga_C) (r : α) : Prop := ga_T RX12 cX12_lessonInRoom (ga_lk cl_X12_lessonInRoom) gaG gaCost (fun _ => []) gaCls 83 0 0 false true true none (fun S _ => S = P) K0 cfg r
set_option maxRecDepth 100000 in
theorem t_X12_lessonInRoom (a : Int32) (b : Int32) (s : ga_M) (r : Int32 × ga_M) (h : f_X12_lessonInRoom a b s = some r) : T_X12_lessonInRoom gaSH ga_kI (0, [some (.ref 72), some (.int a), some (.int b)], [], gaSH, s, 0, 0) r := (by
    rw [fe_X12_lessonInRoom] at h
    exact ga_T_go (sp := ga_sp []) (ga_sp_T (fun _ h => nomatch h)) (n := 600) h)
abbrev T_X11_freeTeachers {α : Type} (P : ga_S) (s0 : ga_M) (K0 : ga_O → Option α) (cfg : ga_C) (r : α) : Prop := ga_T RX11 cX11_freeTeachers (ga_lk cl_X11_freeTeachers) gaGP gaCost (fun _ => []) gaCls 83 1 6 false true false none (fun S σ => S = P ∧ σ = s0) K0 cfg r
set_option maxRecDepth 100000 in
theorem t_X11_freeTeachers_h9 (s0 : ga_M) : ∀ (n : Nat) (l1 : Int32) (l2 : Int32) (l3 : Int32) (S : ga_S) (s : ga_M) (r : Int32 ⊕ Nat), f_X11_freeTeachers_h9 n l1 l2 l3 s = some r → T_X11_freeTeachers gaSH s0 gp_kIX (9, [some (.ref 0), some (.int l1), some (.int l2), some (.int l3)], [], S, s, 1, 6) r := by
  intro n
  induction n with
  | zero => intro l1 l2 l3 S s r h; cases h
  | succ n ih => intro l1 l2 l3 S s r h; exact ga_T_S fun hS => (by
    obtain ⟨rfl, rfl⟩ := hS
    exact ga_T_go (sp := ga_sp [(9, 1, 6, fun L s => match L with
      | [some (.ref 0), some (.int l1), some (.int l2), some (.int l3)] => f_X11_freeTeachers_h9 n l1 l2 l3 s
      | _ => none)]) (ga_sp_T (List.forall_mem_cons.mpr ⟨fun L S s1 h => (by
      dsimp only at h
      split at h
      · exact ih _ _ _  S s1 _ h
      · cases h), fun _ h => nomatch h⟩)) (n := 600) h)
set_option maxRecDepth 100000 in
theorem t_X11_freeTeachers (a : Int32) (s : ga_M) (r : Int32 ⊕ Nat) (h : f_X11_freeTeachers a s = some r) : T_X11_freeTeachers gaSH s gp_kIX (0, [some (.ref 0), some (.int a), none, none], [], gaSH, s, 0, 0) r := (by
    rw [fe_X11_freeTeachers] at h
    exact ga_T_go (sp := ga_sp [(9, 1, 6, fun L s => match L with
      | [some (.ref 0), some (.int l1), some (.int l2), some (.int l3)] => f_X11_freeTeachers_h9 ga_fuel l1 l2 l3 s
      | _ => none)]) (ga_sp_T (List.forall_mem_cons.mpr ⟨fun L S s1 h => (by
      dsimp only at h
      split at h
      · exact t_X11_freeTeachers_h9 s ga_fuel _ _ _  S s1 _ h
      · cases h), fun _ h => nomatch h⟩)) (n := 600) h)
abbrev T_X12_freeTeachers {α : Type} (P : ga_S) (K0 : ga_O → Option α) (cfg : ga_C) (r : α) : Prop := ga_T RX12 cX12_freeTeachers (ga_lk cl_X12_freeTeachers) gaG gaCost (fun _ => []) gaCls 83 0 0 false true true none (fun S _ => S = P) K0 cfg r
set_option maxRecDepth 100000 in
theorem t_X12_freeTeachers_h27 : ∀ (n : Nat) (l1 : Int32) (l2 : Int32) (l3 : Int32) (S : ga_S) (s : ga_M) (r : Int32 × ga_M), f_X12_freeTeachers_h27 n l1 l2 l3 s = some r → T_X12_freeTeachers gaSH ga_kI (27, [some (.ref 72), some (.int l1), some (.int l2), some (.int l3)], [], S, s, 0, 0) r := by
  intro n
  induction n with
  | zero => intro l1 l2 l3 S s r h; cases h
  | succ n ih => intro l1 l2 l3 S s r h; exact ga_T_S fun hS => (by
    cases hS
    exact ga_T_go (sp := ga_sp [(27, 0, 0, fun L s => match L with
      | [some (.ref 72), some (.int l1), some (.int l2), some (.int l3)] => f_X12_freeTeachers_h27 n l1 l2 l3 s
      | _ => none)]) (ga_sp_T (List.forall_mem_cons.mpr ⟨fun L S s1 h => (by
      dsimp only at h
      split at h
      · exact ih _ _ _  S s1 _ h
      · cases h), fun _ h => nomatch h⟩)) (n := 600) h)
set_option maxRecDepth 100000 in
theorem t_X12_freeTeachers (a : Int32) (s : ga_M) (r : Int32 × ga_M) (h : f_X12_freeTeachers a s = some r) : T_X12_freeTeachers gaSH ga_kI (0, [some (.ref 72), some (.int a), none, none], [], gaSH, s, 0, 0) r := (by
    rw [fe_X12_freeTeachers] at h
    exact ga_T_go (sp := ga_sp [(27, 0, 0, fun L s => match L with
      | [some (.ref 72), some (.int l1), some (.int l2), some (.int l3)] => f_X12_freeTeachers_h27 ga_fuel l1 l2 l3 s
      | _ => none)]) (ga_sp_T (List.forall_mem_cons.mpr ⟨fun L S s1 h => (by
      dsimp only at h
      split at h
      · exact t_X12_freeTeachers_h27 ga_fuel _ _ _  S s1 _ h
      · cases h), fun _ h => nomatch h⟩)) (n := 600) h)
abbrev T_X11_freeRooms {α : Type} (P : ga_S) (s0 : ga_M) (K0 : ga_O → Option α) (cfg : ga_C) (r : α) : Prop := ga_T RX11 cX11_freeRooms (ga_lk cl_X11_freeRooms) gaGP gaCost (fun _ => []) gaCls 83 2 12 false true false none (fun S σ => S = P ∧ σ = s0) K0 cfg r
set_option maxRecDepth 100000 in
theorem t_X11_freeRooms_h30 (s0 : ga_M) : ∀ (n : Nat) (l1 : Int32) (l2 : Int32) (l3 : Int32) (l4 : Int32) (S : ga_S) (s : ga_M) (r : Int32 ⊕ Nat), f_X11_freeRooms_h30 n l1 l2 l3 l4 s = some r → T_X11_freeRooms gaSH s0 gp_kIX (30, [some (.ref 0), some (.int l1), some (.int l2), some (.int l3), some (.int l4)], [], S, s, 1, 6) r := by
  intro n
  induction n with
  | zero => intro l1 l2 l3 l4 S s r h; cases h
  | succ n ih => intro l1 l2 l3 l4 S s r h; exact ga_T_S fun hS => (by
    obtain ⟨rfl, rfl⟩ := hS
    exact ga_T_go (sp := ga_sp [(30, 1, 6, fun L s => match L with
      | [some (.ref 0), some (.int l1), some (.int l2), some (.int l3), some (.int l4)] => f_X11_freeRooms_h30 n l1 l2 l3 l4 s
      | _ => none)]) (ga_sp_T (List.forall_mem_cons.mpr ⟨fun L S s1 h => (by
      dsimp only at h
      split at h
      · exact ih _ _ _ _  S s1 _ h
      · cases h), fun _ h => nomatch h⟩)) (n := 600) h)
set_option maxRecDepth 100000 in
theorem t_X11_freeRooms (a : Int32) (b : Int32) (s : ga_M) (r : Int32 ⊕ Nat) (h : f_X11_freeRooms a b s = some r) : T_X11_freeRooms gaSH s gp_kIX (0, [some (.ref 0), some (.int a), some (.int b), none, none], [], gaSH, s, 0, 0) r := (by
    rw [fe_X11_freeRooms] at h
    exact ga_T_go (sp := ga_sp [(30, 1, 6, fun L s => match L with
      | [some (.ref 0), some (.int l1), some (.int l2), some (.int l3), some (.int l4)] => f_X11_freeRooms_h30 ga_fuel l1 l2 l3 l4 s
      | _ => none)]) (ga_sp_T (List.forall_mem_cons.mpr ⟨fun L S s1 h => (by
      dsimp only at h
      split at h
      · exact t_X11_freeRooms_h30 s ga_fuel _ _ _ _  S s1 _ h
      · cases h), fun _ h => nomatch h⟩)) (n := 600) h)
abbrev T_X12_freeRooms {α : Type} (P : ga_S) (K0 : ga_O → Option α) (cfg : ga_C) (r : α) : Prop := ga_T RX12 cX12_freeRooms (ga_lk cl_X12_freeRooms) gaG gaCost (fun _ => []) gaCls 83 0 0 false true true none (fun S _ => S = P) K0 cfg r
set_option maxRecDepth 100000 in
theorem t_X12_freeRooms_h53 : ∀ (n : Nat) (l1 : Int32) (l2 : Int32) (l3 : Int32) (l4 : Int32) (S : ga_S) (s : ga_M) (r : Int32 × ga_M), f_X12_freeRooms_h53 n l1 l2 l3 l4 s = some r → T_X12_freeRooms gaSH ga_kI (53, [some (.ref 72), some (.int l1), some (.int l2), some (.int l3), some (.int l4)], [], S, s, 0, 0) r := by
  intro n
  induction n with
  | zero => intro l1 l2 l3 l4 S s r h; cases h
  | succ n ih => intro l1 l2 l3 l4 S s r h; exact ga_T_S fun hS => (by
    cases hS
    exact ga_T_go (sp := ga_sp [(53, 0, 0, fun L s => match L with
      | [some (.ref 72), some (.int l1), some (.int l2), some (.int l3), some (.int l4)] => f_X12_freeRooms_h53 n l1 l2 l3 l4 s
      | _ => none)]) (ga_sp_T (List.forall_mem_cons.mpr ⟨fun L S s1 h => (by
      dsimp only at h
      split at h
      · exact ih _ _ _ _  S s1 _ h
      · cases h), fun _ h => nomatch h⟩)) (n := 600) h)
set_option maxRecDepth 100000 in
theorem t_X12_freeRooms (a : Int32) (b : Int32) (s : ga_M) (r : Int32 × ga_M) (h : f_X12_freeRooms a b s = some r) : T_X12_freeRooms gaSH ga_kI (0, [some (.ref 72), some (.int a), some (.int b), none, none], [], gaSH, s, 0, 0) r := (by
    rw [fe_X12_freeRooms] at h
    exact ga_T_go (sp := ga_sp [(53, 0, 0, fun L s => match L with
      | [some (.ref 72), some (.int l1), some (.int l2), some (.int l3), some (.int l4)] => f_X12_freeRooms_h53 ga_fuel l1 l2 l3 l4 s
      | _ => none)]) (ga_sp_T (List.forall_mem_cons.mpr ⟨fun L S s1 h => (by
      dsimp only at h
      split at h
      · exact t_X12_freeRooms_h53 ga_fuel _ _ _ _  S s1 _ h
      · cases h), fun _ h => nomatch h⟩)) (n := 600) h)
abbrev T_X11_openLesson {α : Type} (P : ga_S) (s0 : ga_M) (K0 : ga_O → Option α) (cfg : ga_C) (r : α) : Prop := ga_T RX11 cX11_openLesson (ga_lk cl_X11_openLesson) gaGP gaCost (fun _ => []) gaCls 83 1 6 false true false none (fun S σ => S = P ∧ σ = s0) K0 cfg r
set_option maxRecDepth 100000 in
theorem t_X11_openLesson_h4 (s0 : ga_M) : ∀ (n : Nat) (l1 : Int32) (l2 : Int32) (l3 : Int32) (S : ga_S) (s : ga_M) (r : Int32 ⊕ Nat), f_X11_openLesson_h4 n l1 l2 l3 s = some r → T_X11_openLesson gaSH s0 gp_kIX (4, [some (.ref 0), some (.int l1), some (.int l2), some (.int l3)], [], S, s, 0, 0) r := by
  intro n
  induction n with
  | zero => intro l1 l2 l3 S s r h; cases h
  | succ n ih => intro l1 l2 l3 S s r h; exact ga_T_S fun hS => (by
    obtain ⟨rfl, rfl⟩ := hS
    exact ga_T_go (sp := ga_sp [(4, 0, 0, fun L s => match L with
      | [some (.ref 0), some (.int l1), some (.int l2), some (.int l3)] => f_X11_openLesson_h4 n l1 l2 l3 s
      | _ => none)]) (ga_sp_T (List.forall_mem_cons.mpr ⟨fun L S s1 h => (by
      dsimp only at h
      split at h
      · exact ih _ _ _  S s1 _ h
      · cases h), fun _ h => nomatch h⟩)) (n := 600) h)
set_option maxRecDepth 100000 in
theorem t_X11_openLesson (a : Int32) (s : ga_M) (r : Int32 ⊕ Nat) (h : f_X11_openLesson a s = some r) : T_X11_openLesson gaSH s gp_kIX (0, [some (.ref 0), some (.int a), none, none], [], gaSH, s, 0, 0) r := (by
    rw [fe_X11_openLesson] at h
    exact ga_T_go (sp := ga_sp [(4, 0, 0, fun L s => match L with
      | [some (.ref 0), some (.int l1), some (.int l2), some (.int l3)] => f_X11_openLesson_h4 ga_fuel l1 l2 l3 s
      | _ => none)]) (ga_sp_T (List.forall_mem_cons.mpr ⟨fun L S s1 h => (by
      dsimp only at h
      split at h
      · exact t_X11_openLesson_h4 s ga_fuel _ _ _  S s1 _ h
      · cases h), fun _ h => nomatch h⟩)) (n := 600) h)
abbrev T_X12_lessonAt {α : Type} (P : ga_S) (s0 : ga_M) (K0 : ga_O → Option α) (cfg : ga_C) (r : α) : Prop := ga_T RX12 cX12_lessonAt (ga_lk cl_X12_lessonAt) gaGP gaCost (fun _ => []) gaCls 83 0 0 false true false none (fun S σ => S = P ∧ σ = s0) K0 cfg r
set_option maxRecDepth 100000 in
theorem t_X12_lessonAt_h5 (s0 : ga_M) : ∀ (n : Nat) (l2 : Int32) (l3 : Int32) (l4 : Int32) (w0 : Option Value) (S : ga_S) (s : ga_M) (r : Int32), f_X12_lessonAt_h5 n l2 l3 l4 s = some r → T_X12_lessonAt gaSH s0 gp_kI (5, [some (.ref 72), w0, some (.int l2), some (.int l3), some (.int l4)], [], S, s, 0, 0) r := by
  intro n
  induction n with
  | zero => intro l2 l3 l4 w0 S s r h; cases h
  | succ n ih => intro l2 l3 l4 w0 S s r h; exact ga_T_S fun hS => (by
    obtain ⟨rfl, rfl⟩ := hS
    exact ga_T_go (sp := ga_sp [(5, 0, 0, fun L s => match L with
      | [some (.ref 72), _, some (.int l2), some (.int l3), some (.int l4)] => f_X12_lessonAt_h5 n l2 l3 l4 s
      | _ => none)]) (ga_sp_T (List.forall_mem_cons.mpr ⟨fun L S s1 h => (by
      dsimp only at h
      split at h
      · exact ih _ _ _ _ S s1 _ h
      · cases h), fun _ h => nomatch h⟩)) (n := 600) h)
set_option maxRecDepth 100000 in
theorem t_X12_lessonAt (a : Int32) (b : Int32) (s : ga_M) (r : Int32) (h : f_X12_lessonAt a b s = some r) : T_X12_lessonAt gaSH s gp_kI (0, [some (.ref 72), some (.int a), some (.int b), none, none], [], gaSH, s, 0, 0) r := (by
    rw [fe_X12_lessonAt] at h
    exact ga_T_go (sp := ga_sp [(5, 0, 0, fun L s => match L with
      | [some (.ref 72), _, some (.int l2), some (.int l3), some (.int l4)] => f_X12_lessonAt_h5 ga_fuel l2 l3 l4 s
      | _ => none)]) (ga_sp_T (List.forall_mem_cons.mpr ⟨fun L S s1 h => (by
      dsimp only at h
      split at h
      · exact t_X12_lessonAt_h5 s ga_fuel _ _ _ _ S s1 _ h
      · cases h), fun _ h => nomatch h⟩)) (n := 600) h)
