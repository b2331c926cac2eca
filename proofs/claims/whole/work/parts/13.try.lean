abbrev T_X10_append {α : Type} (P : ga_S) (K0 : ga_O → Option α) (cfg : ga_C) (r : α) : Prop := ga_T RX10 cX10_append (ga_lk cl_X10_append) gaG gaCost (fun _ => []) gaCls 83 0 0 false true none (fun S => S = P) K0 cfg r
set_option maxRecDepth 100000 in
theorem t_X10_append_h3 : ∀ (n : Nat) (l1 : Int32) (l2 : Int32) (S : ga_S) (s : ga_M) (r : ga_M), f_X10_append_h3 n l1 l2 s = some r → T_X10_append gaSH ga_kV (3, [some (.ref 45), some (.int l1), some (.int l2)], [], S, s, 0, 0) r := by
  intro n
  induction n with
  | zero => intro l1 l2 S s r h; cases h
  | succ n ih => intro l1 l2 S s r h; exact ga_T_S fun hS => (by
    cases hS
    exact ga_T_go (sp := ga_sp [(3, fun L s => match L with
      | [some (.ref 45), some (.int l1), some (.int l2)] => f_X10_append_h3 n l1 l2 s
      | _ => none)]) (ga_sp_T (List.forall_mem_cons.mpr ⟨fun L S s h => (by
      dsimp only at h
      split at h
      · exact ih _ _  S s _ h
      · cases h), fun _ h => nomatch h⟩)) (n := 600) h)
set_option maxRecDepth 100000 in
theorem t_X10_append (a : Int32) (s : ga_M) (r : ga_M) (h : f_X10_append a s = some r) : T_X10_append gaSH ga_kV (0, [some (.ref 45), some (.int a), none], [], gaSH, s, 0, 0) r := ga_T_go (sp := ga_sp [(3, fun L s => match L with
      | [some (.ref 45), some (.int l1), some (.int l2)] => f_X10_append_h3 ga_fuel l1 l2 s
      | _ => none)]) (ga_sp_T (List.forall_mem_cons.mpr ⟨fun L S s h => (by
      dsimp only at h
      split at h
      · exact t_X10_append_h3 ga_fuel _ _  S s _ h
      · cases h), fun _ h => nomatch h⟩)) (n := 600) h
abbrev T_X12_readTeachers {α : Type} (P : ga_S) (K0 : ga_O → Option α) (cfg : ga_C) (r : α) : Prop := ga_T RX12 cX12_readTeachers (ga_lk cl_X12_readTeachers) gaG gaCost (fun _ => []) gaCls 83 0 0 false true none (fun S => S = P) K0 cfg r
set_option maxRecDepth 100000 in
theorem t_X12_readTeachers_h46 {go15 : ga_M → Option (ga_M)} (hgo15 : ∀ (w0 : Option Value) (w1 : Option Value) (w2 : Option Value) (S : ga_S) (s : ga_M) (r : ga_M), go15  s = some r → T_X12_readTeachers gaSH ga_kV (15, [some (.ref 72), w0, w1, w2], [], S, s, 0, 0) r) : ∀ (n : Nat) (l1 : Int32) (l2 : Int32) (w0 : Option Value) (S : ga_S) (s : ga_M) (r : ga_M), f_X12_readTeachers_h46 go15 n l1 l2 s = some r → T_X12_readTeachers gaSH ga_kV (46, [some (.ref 72), some (.int l1), some (.int l2), w0], [], S, s, 0, 0) r := by
  intro n
  induction n with
  | zero => intro l1 l2 w0 S s r h; cases h
  | succ n ih => intro l1 l2 w0 S s r h; exact ga_T_S fun hS => (by
    cases hS
    exact ga_T_go (sp := ga_sp [(15, fun L s => match L with
      | [some (.ref 72), _, _, _] => go15 s
      | _ => none), (46, fun L s => match L with
      | [some (.ref 72), some (.int l1), some (.int l2), _] => f_X12_readTeachers_h46 go15 n l1 l2 s
      | _ => none)]) (ga_sp_T (List.forall_mem_cons.mpr ⟨fun L S s h => (by
      dsimp only at h
      split at h
      · exact hgo15  _ _ _ S s _ h
      · cases h), List.forall_mem_cons.mpr ⟨fun L S s h => (by
      dsimp only at h
      split at h
      · exact ih _ _ _ S s _ h
      · cases h), fun _ h => nomatch h⟩⟩)) (n := 600) h)
set_option maxRecDepth 100000 in
theorem t_X12_readTeachers_h15 : ∀ (n : Nat) (w0 : Option Value) (w1 : Option Value) (w2 : Option Value) (S : ga_S) (s : ga_M) (r : ga_M), f_X12_readTeachers_h15 n s = some r → T_X12_readTeachers gaSH ga_kV (15, [some (.ref 72), w0, w1, w2], [], S, s, 0, 0) r := by
  intro n
  induction n with
  | zero => intro w0 w1 w2 S s r h; cases h
  | succ n ih => intro w0 w1 w2 S s r h; exact ga_T_S fun hS => (by
    cases hS
    exact ga_T_go (sp := ga_sp [(46, fun L s => match L with
      | [some (.ref 72), some (.int l1), some (.int l2), _] => f_X12_readTeachers_h46 (f_X12_readTeachers_h15 n) ga_fuel l1 l2 s
      | _ => none)]) (ga_sp_T (List.forall_mem_cons.mpr ⟨fun L S s h => (by
      dsimp only at h
      split at h
      · exact t_X12_readTeachers_h46 ih ga_fuel _ _ _ S s _ h
      · cases h), fun _ h => nomatch h⟩)) (n := 600) h)
set_option maxRecDepth 100000 in
theorem t_X12_readTeachers (s : ga_M) (r : ga_M) (h : f_X12_readTeachers s = some r) : T_X12_readTeachers gaSH ga_kV (0, [some (.ref 72), none, none, none], [], gaSH, s, 0, 0) r := ga_T_go (sp := ga_sp [(15, fun L s => match L with
      | [some (.ref 72), _, _, _] => f_X12_readTeachers_h15 ga_fuel s
      | _ => none)]) (ga_sp_T (List.forall_mem_cons.mpr ⟨fun L S s h => (by
      dsimp only at h
      split at h
      · exact t_X12_readTeachers_h15 ga_fuel  _ _ _ S s _ h
      · cases h), fun _ h => nomatch h⟩)) (n := 600) h
abbrev T_X3_isOpen {α : Type} (P : ga_S) (K0 : ga_O → Option α) (cfg : ga_C) (r : α) : Prop := ga_T RX3 cX3_isOpen (ga_lk cl_X3_isOpen) gaG gaCost (fun _ => []) gaCls 83 0 0 false true none (fun S => S = P) K0 cfg r
set_option maxRecDepth 100000 in
theorem t_X3_isOpen (a : Int32) (s : ga_M) (r : Int32 × ga_M) (h : f_X3_isOpen a s = some r) : T_X3_isOpen gaSH ga_kI (0, [some (.ref 20), some (.int a)], [], gaSH, s, 0, 0) r := ga_T_go (sp := ga_sp []) (ga_sp_T (fun _ h => nomatch h)) (n := 600) h
abbrev T_X3_lessonAt {α : Type} (P : ga_S) (K0 : ga_O → Option α) (cfg : ga_C) (r : α) : Prop := ga_T RX3 cX3_lessonAt (ga_lk cl_X3_lessonAt) gaG gaCost (fun _ => []) gaCls 83 0 0 false true none (fun S => S = P) K0 cfg r
set_option maxRecDepth 100000 in
theorem t_X3_lessonAt_23_h3 : ∀ (n : Nat) (l1 : Int32) (l3 : Int32) (l4 : Int32) (S : ga_S) (s : ga_M) (r : Int32 × ga_M), f_X3_lessonAt_23_h3 n l1 l3 l4 s = some r → T_X3_lessonAt gaSH ga_kI (3, [some (.ref 20), some (.int l1), some (.ref 23), some (.int l3), some (.int l4)], [], S, s, 0, 0) r := by
  intro n
  induction n with
  | zero => intro l1 l3 l4 S s r h; cases h
  | succ n ih => intro l1 l3 l4 S s r h; exact ga_T_S fun hS => (by
    cases hS
    exact ga_T_go (sp := ga_sp [(3, fun L s => match L with
      | [some (.ref 20), some (.int l1), some (.ref 23), some (.int l3), some (.int l4)] => f_X3_lessonAt_23_h3 n l1 l3 l4 s
      | _ => none)]) (ga_sp_T (List.forall_mem_cons.mpr ⟨fun L S s h => (by
      dsimp only at h
      split at h
      · exact ih _ _ _  S s _ h
      · cases h), fun _ h => nomatch h⟩)) (n := 600) h)
set_option maxRecDepth 100000 in
theorem t_X3_lessonAt_23 (a : Int32) (b : Int32) (s : ga_M) (r : Int32 × ga_M) (h : f_X3_lessonAt_23 a b s = some r) : T_X3_lessonAt gaSH ga_kI (0, [some (.ref 20), some (.int a), some (.ref 23), some (.int b), none], [], gaSH, s, 0, 0) r := ga_T_go (sp := ga_sp [(3, fun L s => match L with
      | [some (.ref 20), some (.int l1), some (.ref 23), some (.int l3), some (.int l4)] => f_X3_lessonAt_23_h3 ga_fuel l1 l3 l4 s
      | _ => none)]) (ga_sp_T (List.forall_mem_cons.mpr ⟨fun L S s h => (by
      dsimp only at h
      split at h
      · exact t_X3_lessonAt_23_h3 ga_fuel _ _ _  S s _ h
      · cases h), fun _ h => nomatch h⟩)) (n := 600) h
abbrev T_X3_letTeach {α : Type} (P : ga_S) (K0 : ga_O → Option α) (cfg : ga_C) (r : α) : Prop := ga_T RX3 cX3_letTeach (ga_lk cl_X3_letTeach) gaG gaCost (fun _ => []) gaCls 83 0 0 false true none (fun S => S = P) K0 cfg r
set_option maxRecDepth 100000 in
theorem t_X3_letTeach (a : Int32) (b : Int32) (s : ga_M) (r : ga_M) (h : f_X3_letTeach a b s = some r) : T_X3_letTeach gaSH ga_kV (0, [some (.ref 20), some (.int a), some (.int b)], [], gaSH, s, 0, 0) r := ga_T_go (sp := ga_sp []) (ga_sp_T (fun _ h => nomatch h)) (n := 600) h
set_option maxRecDepth 100000 in
theorem t_X3_lessonAt_25_h3 : ∀ (n : Nat) (l1 : Int32) (l3 : Int32) (l4 : Int32) (S : ga_S) (s : ga_M) (r : Int32 × ga_M), f_X3_lessonAt_25_h3 n l1 l3 l4 s = some r → T_X3_lessonAt gaSH ga_kI (3, [some (.ref 20), some (.int l1), some (.ref 25), some (.int l3), some (.int l4)], [], S, s, 0, 0) r := by
  intro n
  induction n with
  | zero => intro l1 l3 l4 S s r h; cases h
  | succ n ih => intro l1 l3 l4 S s r h; exact ga_T_S fun hS => (by
    cases hS
    exact ga_T_go (sp := ga_sp [(3, fun L s => match L with
      | [some (.ref 20), some (.int l1), some (.ref 25), some (.int l3), some (.int l4)] => f_X3_lessonAt_25_h3 n l1 l3 l4 s
      | _ => none)]) (ga_sp_T (List.forall_mem_cons.mpr ⟨fun L S s h => (by
      dsimp only at h
      split at h
      · exact ih _ _ _  S s _ h
      · cases h), fun _ h => nomatch h⟩)) (n := 600) h)
set_option maxRecDepth 100000 in
theorem t_X3_lessonAt_25 (a : Int32) (b : Int32) (s : ga_M) (r : Int32 × ga_M) (h : f_X3_lessonAt_25 a b s = some r) : T_X3_lessonAt gaSH ga_kI (0, [some (.ref 20), some (.int a), some (.ref 25), some (.int b), none], [], gaSH, s, 0, 0) r := ga_T_go (sp := ga_sp [(3, fun L s => match L with
      | [some (.ref 20), some (.int l1), some (.ref 25), some (.int l3), some (.int l4)] => f_X3_lessonAt_25_h3 ga_fuel l1 l3 l4 s
      | _ => none)]) (ga_sp_T (List.forall_mem_cons.mpr ⟨fun L S s h => (by
      dsimp only at h
      split at h
      · exact t_X3_lessonAt_25_h3 ga_fuel _ _ _  S s _ h
      · cases h), fun _ h => nomatch h⟩)) (n := 600) h
set_option maxRecDepth 100000 in
theorem t_X3_lessonAt_10_h3 : ∀ (n : Nat) (l1 : Int32) (l3 : Int32) (l4 : Int32) (S : ga_S) (s : ga_M) (r : Int32 × ga_M), f_X3_lessonAt_10_h3 n l1 l3 l4 s = some r → T_X3_lessonAt gaSH ga_kI (3, [some (.ref 20), some (.int l1), some (.ref 10), some (.int l3), some (.int l4)], [], S, s, 0, 0) r := by
  intro n
  induction n with
  | zero => intro l1 l3 l4 S s r h; cases h
  | succ n ih => intro l1 l3 l4 S s r h; exact ga_T_S fun hS => (by
    cases hS
    exact ga_T_go (sp := ga_sp [(3, fun L s => match L with
      | [some (.ref 20), some (.int l1), some (.ref 10), some (.int l3), some (.int l4)] => f_X3_lessonAt_10_h3 n l1 l3 l4 s
      | _ => none)]) (ga_sp_T (List.forall_mem_cons.mpr ⟨fun L S s h => (by
      dsimp only at h
      split at h
      · exact ih _ _ _  S s _ h
      · cases h), fun _ h => nomatch h⟩)) (n := 600) h)
set_option maxRecDepth 100000 in
theorem t_X3_lessonAt_10 (a : Int32) (b : Int32) (s : ga_M) (r : Int32 × ga_M) (h : f_X3_lessonAt_10 a b s = some r) : T_X3_lessonAt gaSH ga_kI (0, [some (.ref 20), some (.int a), some (.ref 10), some (.int b), none], [], gaSH, s, 0, 0) r := ga_T_go (sp := ga_sp [(3, fun L s => match L with
      | [some (.ref 20), some (.int l1), some (.ref 10), some (.int l3), some (.int l4)] => f_X3_lessonAt_10_h3 ga_fuel l1 l3 l4 s
      | _ => none)]) (ga_sp_T (List.forall_mem_cons.mpr ⟨fun L S s h => (by
      dsimp only at h
      split at h
      · exact t_X3_lessonAt_10_h3 ga_fuel _ _ _  S s _ h
      · cases h), fun _ h => nomatch h⟩)) (n := 600) h
abbrev T_X11_cover {α : Type} (P : ga_S) (K0 : ga_O → Option α) (cfg : ga_C) (r : α) : Prop := ga_T RX11 cX11_cover (ga_lk cl_X11_cover) gaG gaCost (fun _ => []) gaCls 83 3 18 false true none (fun S => S = P) K0 cfg r
set_option maxRecDepth 100000 in
theorem t_X11_cover (a : Int32) (b : Int32) (s : ga_M) (r : (Int32 ⊕ Nat) × ga_M) (h : f_X11_cover a b s = some r) : T_X11_cover gaSH ga_kIX (0, [some (.ref 0), some (.int a), some (.int b)], [], gaSH, s, 0, 0) r := ga_T_go (sp := ga_sp []) (ga_sp_T (fun _ h => nomatch h)) (n := 600) h
abbrev T_X5_writeLesson {α : Type} (P : ga_S) (K0 : ga_O → Option α) (cfg : ga_C) (r : α) : Prop := ga_T RX5 cX5_writeLesson (ga_lk cl_X5_writeLesson) gaG gaCost (fun _ => []) gaCls 83 0 0 false true none (fun S => S = P) K0 cfg r
set_option maxRecDepth 100000 in
theorem t_X5_writeLesson (a : Int32) (s : ga_M) (r : ga_M) (h : f_X5_writeLesson a s = some r) : T_X5_writeLesson gaSH ga_kV (0, [some (.ref 69), some (.int a)], [], gaSH, s, 0, 0) r := ga_T_go (sp := ga_sp []) (ga_sp_T (fun _ h => nomatch h)) (n := 600) h
abbrev T_X5_write {α : Type} (P : ga_S) (K0 : ga_O → Option α) (cfg : ga_C) (r : α) : Prop := ga_T RX5 cX5_write (ga_lk cl_X5_write) gaG gaCost (fun _ => []) gaCls 83 0 0 false true none (fun S => S = P) K0 cfg r
set_option maxRecDepth 100000 in
theorem t_X5_write_h20 {go7 : Int32 → Int32 → ga_M → Option (ga_M)} (hgo7 : ∀ (l1 : Int32) (l2 : Int32) (w0 : Option Value) (S : ga_S) (s : ga_M) (r : ga_M), go7 l1 l2 s = some r → T_X5_write gaSH ga_kV (7, [some (.ref 69), some (.int l1), some (.int l2), w0], [], S, s, 0, 0) r) : ∀ (n : Nat) (l1 : Int32) (l2 : Int32) (l3 : Int32) (S : ga_S) (s : ga_M) (r : ga_M), f_X5_write_h20 go7 n l1 l2 l3 s = some r → T_X5_write gaSH ga_kV (20, [some (.ref 69), some (.int l1), some (.int l2), some (.int l3)], [], S, s, 0, 0) r := by
  intro n
  induction n with
  | zero => intro l1 l2 l3 S s r h; cases h
  | succ n ih => intro l1 l2 l3 S s r h; exact ga_T_S fun hS => (by
    cases hS
    exact ga_T_go (sp := ga_sp [(7, fun L s => match L with
      | [some (.ref 69), some (.int l1), some (.int l2), _] => go7 l1 l2 s
      | _ => none), (20, fun L s => match L with
      | [some (.ref 69), some (.int l1), some (.int l2), some (.int l3)] => f_X5_write_h20 go7 n l1 l2 l3 s
      | _ => none)]) (ga_sp_T (List.forall_mem_cons.mpr ⟨fun L S s h => (by
      dsimp only at h
      split at h
      · exact hgo7 _ _ _ S s _ h
      · cases h), List.forall_mem_cons.mpr ⟨fun L S s h => (by
      dsimp only at h
      split at h
      · exact ih _ _ _  S s _ h
      · cases h), fun _ h => nomatch h⟩⟩)) (n := 600) h)
set_option maxRecDepth 100000 in
theorem t_X5_write_h7 : ∀ (n : Nat) (l1 : Int32) (l2 : Int32) (w0 : Option Value) (S : ga_S) (s : ga_M) (r : ga_M), f_X5_write_h7 n l1 l2 s = some r → T_X5_write gaSH ga_kV (7, [some (.ref 69), some (.int l1), some (.int l2), w0], [], S, s, 0, 0) r := by
  intro n
  induction n with
  | zero => intro l1 l2 w0 S s r h; cases h
  | succ n ih => intro l1 l2 w0 S s r h; exact ga_T_S fun hS => (by
    cases hS
    exact ga_T_go (sp := ga_sp [(20, fun L s => match L with
      | [some (.ref 69), some (.int l1), some (.int l2), some (.int l3)] => f_X5_write_h20 (f_X5_write_h7 n) ga_fuel l1 l2 l3 s
      | _ => none)]) (ga_sp_T (List.forall_mem_cons.mpr ⟨fun L S s h => (by
      dsimp only at h
      split at h
      · exact t_X5_write_h20 ih ga_fuel _ _ _  S s _ h
      · cases h), fun _ h => nomatch h⟩)) (n := 600) h)
set_option maxRecDepth 100000 in
theorem t_X5_write (a : Int32) (s : ga_M) (r : ga_M) (h : f_X5_write a s = some r) : T_X5_write gaSH ga_kV (0, [some (.ref 69), some (.int a), none, none], [], gaSH, s, 0, 0) r := ga_T_go (sp := ga_sp [(7, fun L s => match L with
      | [some (.ref 69), some (.int l1), some (.int l2), _] => f_X5_write_h7 ga_fuel l1 l2 s
      | _ => none)]) (ga_sp_T (List.forall_mem_cons.mpr ⟨fun L S s h => (by
      dsimp only at h
      split at h
      · exact t_X5_write_h7 ga_fuel _ _ _ S s _ h
      · cases h), fun _ h => nomatch h⟩)) (n := 600) h
abbrev T_L_cover {α : Type} (P : ga_S) (K0 : ga_O → Option α) (cfg : ga_C) (r : α) : Prop := ga_T RL cL_cover (ga_lk cl_L_cover) gaG gaCost (fun pc => bif Nat.beq pc 5 then [(3, 15, 4), (1, 19, 4)] else []) gaCls 83 3 18 false true none (fun S => S = P) K0 cfg r
set_option maxRecDepth 100000 in
theorem t_L_cover_0_82 (a : Int32) (b : Int32) (s : ga_M) (r : (Int32 ⊕ Nat) × ga_M) (h : f_L_cover_0_82 a b s = some r) : T_L_cover gaSH ga_kIX (0, [some (.ref 0), some (.int a), some (.int b), some (.ref 82), none], [], gaSH, s, 0, 0) r := ga_T_go (sp := ga_sp []) (ga_sp_T (fun _ h => nomatch h)) (n := 600) h
