abbrev T_X12_isThere {α : Type} (P : ga_S) (s0 : ga_M) (K0 : ga_O → Option α) (cfg : ga_C) (r : α) : Prop := ga_T RX12 cX12_isThere (ga_lk cl_X12_isThere) gaGP gaCost (fun _ => []) gaCls 83 0 0 false true false none (fun S σ => S = P ∧ σ = s0) K0 cfg r
set_option maxRecDepth 100000 in
theorem t_X12_isThere_h6 (s0 : ga_M) : ∀ (n : Nat) (l1 : Int32) (l2 : Int32) (l3 : Int32) (l4 : Int32) (l5 : Int32) (S : ga_S) (s : ga_M) (r : Int32), f_X12_isThere_h6 n l1 l2 l3 l4 l5 s = some r → T_X12_isThere gaSH s0 gp_kI (6, [some (.ref 72), some (.int l1), some (.int l2), some (.int l3), some (.int l4), some (.int l5)], [], S, s, 0, 0) r := by
  intro n
  induction n with
  | zero => intro l1 l2 l3 l4 l5 S s r h; cases h
  | succ n ih => intro l1 l2 l3 l4 l5 S s r h; exact ga_T_S fun hS => (by
    obtain ⟨rfl, rfl⟩ := hS
    exact ga_T_go (sp := ga_sp [(6, 0, 0, fun L s => match L with
      | [some (.ref 72), some (.int l1), some (.int l2), some (.int l3), some (.int l4), some (.int l5)] => f_X12_isThere_h6 n l1 l2 l3 l4 l5 s
      | _ => none)]) (ga_sp_T (List.forall_mem_cons.mpr ⟨fun L S s1 h => (by
      dsimp only at h
      split at h
      · exact ih _ _ _ _ _  S s1 _ h
      · cases h), fun _ h => nomatch h⟩)) (n := 600) h)
set_option maxRecDepth 100000 in
theorem t_X12_isThere (a : Int32) (b : Int32) (c : Int32) (s : ga_M) (r : Int32) (h : f_X12_isThere a b c s = some r) : T_X12_isThere gaSH s gp_kI (0, [some (.ref 72), some (.int a), some (.int b), some (.int c), none, none], [], gaSH, s, 0, 0) r := (by
    rw [fe_X12_isThere] at h
    exact ga_T_go (sp := ga_sp [(6, 0, 0, fun L s => match L with
      | [some (.ref 72), some (.int l1), some (.int l2), some (.int l3), some (.int l4), some (.int l5)] => f_X12_isThere_h6 ga_fuel l1 l2 l3 l4 l5 s
      | _ => none)]) (ga_sp_T (List.forall_mem_cons.mpr ⟨fun L S s1 h => (by
      dsimp only at h
      split at h
      · exact t_X12_isThere_h6 s ga_fuel _ _ _ _ _  S s1 _ h
      · cases h), fun _ h => nomatch h⟩)) (n := 600) h)
abbrev T_X12_readLesson {α : Type} (P : ga_S) (K0 : ga_O → Option α) (cfg : ga_C) (r : α) : Prop := ga_T RX12 cX12_readLesson (ga_lk cl_X12_readLesson) gaG gaCost (fun _ => []) gaCls 83 0 0 false true true none (fun S _ => S = P) K0 cfg r
set_option maxRecDepth 100000 in
theorem t_X12_readLesson_j214 (l1 : Int32) (l2 : Int32) (l3 : Int32) (l4 : Int32) (l5 : Int32) (l6 : Int32) (S : ga_S) (s : ga_M) (r : ga_M) (h : f_X12_readLesson_j214 l1 l2 l3 l4 l5 l6 s = some r) : T_X12_readLesson gaSH ga_kV (214, [some (.ref 72), some (.int l1), some (.int l2), some (.int l3), some (.int l4), some (.int l5), some (.int l6)], [], S, s, 0, 0) r := ga_T_S fun hS => (by
    cases hS
    rw [fe_X12_readLesson_j214] at h
    exact ga_T_go (sp := ga_sp []) (ga_sp_T (fun _ h => nomatch h)) (n := 600) h)
set_option maxRecDepth 100000 in
theorem t_X12_readLesson_j186 (l1 : Int32) (l2 : Int32) (l3 : Int32) (l4 : Int32) (l5 : Int32) (l6 : Int32) (S : ga_S) (s : ga_M) (r : ga_M) (h : f_X12_readLesson_j186 l1 l2 l3 l4 l5 l6 s = some r) : T_X12_readLesson gaSH ga_kV (186, [some (.ref 72), some (.int l1), some (.int l2), some (.int l3), some (.int l4), some (.int l5), some (.int l6)], [], S, s, 0, 0) r := ga_T_S fun hS => (by
    cases hS
    rw [fe_X12_readLesson_j186] at h
    exact ga_T_go (sp := ga_sp [(214, 0, 0, fun L s => match L with
      | [some (.ref 72), some (.int l1), some (.int l2), some (.int l3), some (.int l4), some (.int l5), some (.int l6)] => f_X12_readLesson_j214 l1 l2 l3 l4 l5 l6 s
      | _ => none)]) (ga_sp_T (List.forall_mem_cons.mpr ⟨fun L S s1 h => (by
      dsimp only at h
      split at h
      · exact t_X12_readLesson_j214 _ _ _ _ _ _  S s1 _ h
      · cases h), fun _ h => nomatch h⟩)) (n := 600) h)
set_option maxRecDepth 100000 in
theorem t_X12_readLesson_j149 (l1 : Int32) (l2 : Int32) (l3 : Int32) (l4 : Int32) (l5 : Int32) (w0 : Option Value) (S : ga_S) (s : ga_M) (r : ga_M) (h : f_X12_readLesson_j149 l1 l2 l3 l4 l5 s = some r) : T_X12_readLesson gaSH ga_kV (149, [some (.ref 72), some (.int l1), some (.int l2), some (.int l3), some (.int l4), some (.int l5), w0], [], S, s, 0, 0) r := ga_T_S fun hS => (by
    cases hS
    rw [fe_X12_readLesson_j149] at h
    exact ga_T_go (sp := ga_sp [(186, 0, 0, fun L s => match L with
      | [some (.ref 72), some (.int l1), some (.int l2), some (.int l3), some (.int l4), some (.int l5), some (.int l6)] => f_X12_readLesson_j186 l1 l2 l3 l4 l5 l6 s
      | _ => none)]) (ga_sp_T (List.forall_mem_cons.mpr ⟨fun L S s1 h => (by
      dsimp only at h
      split at h
      · exact t_X12_readLesson_j186 _ _ _ _ _ _  S s1 _ h
      · cases h), fun _ h => nomatch h⟩)) (n := 600) h)
set_option maxRecDepth 100000 in
theorem t_X12_readLesson_j126 (l1 : Int32) (l2 : Int32) (l3 : Int32) (l4 : Int32) (l5 : Int32) (w0 : Option Value) (S : ga_S) (s : ga_M) (r : ga_M) (h : f_X12_readLesson_j126 l1 l2 l3 l4 l5 s = some r) : T_X12_readLesson gaSH ga_kV (126, [some (.ref 72), some (.int l1), some (.int l2), some (.int l3), some (.int l4), some (.int l5), w0], [], S, s, 0, 0) r := ga_T_S fun hS => (by
    cases hS
    rw [fe_X12_readLesson_j126] at h
    exact ga_T_go (sp := ga_sp [(149, 0, 0, fun L s => match L with
      | [some (.ref 72), some (.int l1), some (.int l2), some (.int l3), some (.int l4), some (.int l5), _] => f_X12_readLesson_j149 l1 l2 l3 l4 l5 s
      | _ => none)]) (ga_sp_T (List.forall_mem_cons.mpr ⟨fun L S s1 h => (by
      dsimp only at h
      split at h
      · exact t_X12_readLesson_j149 _ _ _ _ _ _ S s1 _ h
      · cases h), fun _ h => nomatch h⟩)) (n := 600) h)
set_option maxRecDepth 100000 in
theorem t_X12_readLesson_j74 (l1 : Int32) (l2 : Int32) (l3 : Int32) (w0 : Option Value) (w1 : Option Value) (w2 : Option Value) (S : ga_S) (s : ga_M) (r : ga_M) (h : f_X12_readLesson_j74 l1 l2 l3 s = some r) : T_X12_readLesson gaSH ga_kV (74, [some (.ref 72), some (.int l1), some (.int l2), some (.int l3), w0, w1, w2], [], S, s, 0, 0) r := ga_T_S fun hS => (by
    cases hS
    rw [fe_X12_readLesson_j74] at h
    exact ga_T_go (sp := ga_sp [(126, 0, 0, fun L s => match L with
      | [some (.ref 72), some (.int l1), some (.int l2), some (.int l3), some (.int l4), some (.int l5), _] => f_X12_readLesson_j126 l1 l2 l3 l4 l5 s
      | _ => none)]) (ga_sp_T (List.forall_mem_cons.mpr ⟨fun L S s1 h => (by
      dsimp only at h
      split at h
      · exact t_X12_readLesson_j126 _ _ _ _ _ _ S s1 _ h
      · cases h), fun _ h => nomatch h⟩)) (n := 600) h)
set_option maxRecDepth 100000 in
theorem t_X12_readLesson_j19 (l1 : Int32) (w0 : Option Value) (w1 : Option Value) (w2 : Option Value) (w3 : Option Value) (w4 : Option Value) (S : ga_S) (s : ga_M) (r : ga_M) (h : f_X12_readLesson_j19 l1 s = some r) : T_X12_readLesson gaSH ga_kV (19, [some (.ref 72), some (.int l1), w0, w1, w2, w3, w4], [], S, s, 0, 0) r := ga_T_S fun hS => (by
    cases hS
    rw [fe_X12_readLesson_j19] at h
    exact ga_T_go (sp := ga_sp [(74, 0, 0, fun L s => match L with
      | [some (.ref 72), some (.int l1), some (.int l2), some (.int l3), _, _, _] => f_X12_readLesson_j74 l1 l2 l3 s
      | _ => none)]) (ga_sp_T (List.forall_mem_cons.mpr ⟨fun L S s1 h => (by
      dsimp only at h
      split at h
      · exact t_X12_readLesson_j74 _ _ _ _ _ _ S s1 _ h
      · cases h), fun _ h => nomatch h⟩)) (n := 600) h)
set_option maxRecDepth 100000 in
theorem t_X12_readLesson (s : ga_M) (r : ga_M) (h : f_X12_readLesson s = some r) : T_X12_readLesson gaSH ga_kV (0, [some (.ref 72), none, none, none, none, none, none], [], gaSH, s, 0, 0) r := (by
    rw [fe_X12_readLesson] at h
    exact ga_T_go (sp := ga_sp [(19, 0, 0, fun L s => match L with
      | [some (.ref 72), some (.int l1), _, _, _, _, _] => f_X12_readLesson_j19 l1 s
      | _ => none)]) (ga_sp_T (List.forall_mem_cons.mpr ⟨fun L S s1 h => (by
      dsimp only at h
      split at h
      · exact t_X12_readLesson_j19 _ _ _ _ _ _ S s1 _ h
      · cases h), fun _ h => nomatch h⟩)) (n := 600) h)
abbrev T_X12_firstly {α : Type} (P : ga_S) (K0 : ga_O → Option α) (cfg : ga_C) (r : α) : Prop := ga_T RX12 cX12_firstly (ga_lk cl_X12_firstly) gaG gaCost (fun _ => []) gaCls 83 0 0 false true true none (fun S _ => S = P) K0 cfg r
set_option maxRecDepth 100000 in
theorem t_X12_firstly (a : Int32) (s : ga_M) (r : ga_M) (h : f_X12_firstly a s = some r) : T_X12_firstly gaSH ga_kV (0, [some (.ref 72), some (.int a)], [], gaSH, s, 0, 0) r := (by
    rw [fe_X12_firstly] at h
    exact ga_T_go (sp := ga_sp []) (ga_sp_T (fun _ h => nomatch h)) (n := 600) h)
abbrev T_X12_beginAnew {α : Type} (P : ga_S) (K0 : ga_O → Option α) (cfg : ga_C) (r : α) : Prop := ga_T RX12 cX12_beginAnew (ga_lk cl_X12_beginAnew) gaG gaCost (fun _ => []) gaCls 83 0 0 false true true none (fun S _ => S = P) K0 cfg r
set_option maxRecDepth 100000 in
theorem t_X12_beginAnew_h24 : ∀ (n : Nat) (l1 : Int32) (S : ga_S) (s : ga_M) (r : ga_M), f_X12_beginAnew_h24 n l1 s = some r → T_X12_beginAnew gaSH ga_kV (24, [some (.ref 72), some (.int l1)], [], S, s, 0, 0) r := by
  intro n
  induction n with
  | zero => intro l1 S s r h; cases h
  | succ n ih => intro l1 S s r h; exact ga_T_S fun hS => (by
    cases hS
    exact ga_T_go (sp := ga_sp [(24, 0, 0, fun L s => match L with
      | [some (.ref 72), some (.int l1)] => f_X12_beginAnew_h24 n l1 s
      | _ => none)]) (ga_sp_T (List.forall_mem_cons.mpr ⟨fun L S s1 h => (by
      dsimp only at h
      split at h
      · exact ih _  S s1 _ h
      · cases h), fun _ h => nomatch h⟩)) (n := 600) h)
set_option maxRecDepth 100000 in
theorem t_X12_beginAnew_h2 : ∀ (n : Nat) (l1 : Int32) (S : ga_S) (s : ga_M) (r : ga_M), f_X12_beginAnew_h2 n l1 s = some r → T_X12_beginAnew gaSH ga_kV (2, [some (.ref 72), some (.int l1)], [], S, s, 0, 0) r := by
  intro n
  induction n with
  | zero => intro l1 S s r h; cases h
  | succ n ih => intro l1 S s r h; exact ga_T_S fun hS => (by
    cases hS
    exact ga_T_go (sp := ga_sp [(24, 0, 0, fun L s => match L with
      | [some (.ref 72), some (.int l1)] => f_X12_beginAnew_h24 ga_fuel l1 s
      | _ => none), (2, 0, 0, fun L s => match L with
      | [some (.ref 72), some (.int l1)] => f_X12_beginAnew_h2 n l1 s
      | _ => none)]) (ga_sp_T (List.forall_mem_cons.mpr ⟨fun L S s1 h => (by
      dsimp only at h
      split at h
      · exact t_X12_beginAnew_h24 ga_fuel _  S s1 _ h
      · cases h), List.forall_mem_cons.mpr ⟨fun L S s1 h => (by
      dsimp only at h
      split at h
      · exact ih _  S s1 _ h
      · cases h), fun _ h => nomatch h⟩⟩)) (n := 600) h)
set_option maxRecDepth 100000 in
theorem t_X12_beginAnew (s : ga_M) (r : ga_M) (h : f_X12_beginAnew s = some r) : T_X12_beginAnew gaSH ga_kV (0, [some (.ref 72), none], [], gaSH, s, 0, 0) r := (by
    rw [fe_X12_beginAnew] at h
    exact ga_T_go (sp := ga_sp [(2, 0, 0, fun L s => match L with
      | [some (.ref 72), some (.int l1)] => f_X12_beginAnew_h2 ga_fuel l1 s
      | _ => none)]) (ga_sp_T (List.forall_mem_cons.mpr ⟨fun L S s1 h => (by
      dsimp only at h
      split at h
      · exact t_X12_beginAnew_h2 ga_fuel _  S s1 _ h
      · cases h), fun _ h => nomatch h⟩)) (n := 600) h)
abbrev T_X12_parseSchool {α : Type} (P : ga_S) (K0 : ga_O → Option α) (cfg : ga_C) (r : α) : Prop := ga_T RX12 cX12_parseSchool (ga_lk cl_X12_parseSchool) gaG gaCost (fun _ => []) gaCls 83 0 0 false true true none (fun S _ => S = P) K0 cfg r
set_option maxRecDepth 100000 in
theorem t_X12_parseSchool_h176 : ∀ (n : Nat) (l1 : Int32) (S : ga_S) (s : ga_M) (r : Int32 × ga_M), f_X12_parseSchool_h176 n l1 s = some r → T_X12_parseSchool gaSH ga_kI (176, [some (.ref 72), some (.int l1)], [], S, s, 0, 0) r := by
  intro n
  induction n with
  | zero => intro l1 S s r h; cases h
  | succ n ih => intro l1 S s r h; exact ga_T_S fun hS => (by
    cases hS
    exact ga_T_go (sp := ga_sp [(176, 0, 0, fun L s => match L with
      | [some (.ref 72), some (.int l1)] => f_X12_parseSchool_h176 n l1 s
      | _ => none)]) (ga_sp_T (List.forall_mem_cons.mpr ⟨fun L S s1 h => (by
      dsimp only at h
      split at h
      · exact ih _  S s1 _ h
      · cases h), fun _ h => nomatch h⟩)) (n := 600) h)
set_option maxRecDepth 100000 in
theorem t_X12_parseSchool_h125 : ∀ (n : Nat) (w0 : Option Value) (S : ga_S) (s : ga_M) (r : Int32 × ga_M), f_X12_parseSchool_h125 n s = some r → T_X12_parseSchool gaSH ga_kI (125, [some (.ref 72), w0], [], S, s, 0, 0) r := by
  intro n
  induction n with
  | zero => intro w0 S s r h; cases h
  | succ n ih => intro w0 S s r h; exact ga_T_S fun hS => (by
    cases hS
    exact ga_T_go (sp := ga_sp [(176, 0, 0, fun L s => match L with
      | [some (.ref 72), some (.int l1)] => f_X12_parseSchool_h176 ga_fuel l1 s
      | _ => none), (125, 0, 0, fun L s => match L with
      | [some (.ref 72), _] => f_X12_parseSchool_h125 n s
      | _ => none)]) (ga_sp_T (List.forall_mem_cons.mpr ⟨fun L S s1 h => (by
      dsimp only at h
      split at h
      · exact t_X12_parseSchool_h176 ga_fuel _  S s1 _ h
      · cases h), List.forall_mem_cons.mpr ⟨fun L S s1 h => (by
      dsimp only at h
      split at h
      · exact ih  _ S s1 _ h
      · cases h), fun _ h => nomatch h⟩⟩)) (n := 600) h)
set_option maxRecDepth 100000 in
theorem t_X12_parseSchool_h7 : ∀ (n : Nat) (l1 : Int32) (S : ga_S) (s : ga_M) (r : Int32 × ga_M), f_X12_parseSchool_h7 n l1 s = some r → T_X12_parseSchool gaSH ga_kI (7, [some (.ref 72), some (.int l1)], [], S, s, 0, 0) r := by
  intro n
  induction n with
  | zero => intro l1 S s r h; cases h
  | succ n ih => intro l1 S s r h; exact ga_T_S fun hS => (by
    cases hS
    exact ga_T_go (sp := ga_sp [(125, 0, 0, fun L s => match L with
      | [some (.ref 72), _] => f_X12_parseSchool_h125 ga_fuel s
      | _ => none), (7, 0, 0, fun L s => match L with
      | [some (.ref 72), some (.int l1)] => f_X12_parseSchool_h7 n l1 s
      | _ => none)]) (ga_sp_T (List.forall_mem_cons.mpr ⟨fun L S s1 h => (by
      dsimp only at h
      split at h
      · exact t_X12_parseSchool_h125 ga_fuel  _ S s1 _ h
      · cases h), List.forall_mem_cons.mpr ⟨fun L S s1 h => (by
      dsimp only at h
      split at h
      · exact ih _  S s1 _ h
      · cases h), fun _ h => nomatch h⟩⟩)) (n := 600) h)
set_option maxRecDepth 100000 in
theorem t_X12_parseSchool (s : ga_M) (r : Int32 × ga_M) (h : f_X12_parseSchool s = some r) : T_X12_parseSchool gaSH ga_kI (0, [some (.ref 72), none], [], gaSH, s, 0, 0) r := (by
    rw [fe_X12_parseSchool] at h
    exact ga_T_go (sp := ga_sp [(7, 0, 0, fun L s => match L with
      | [some (.ref 72), some (.int l1)] => f_X12_parseSchool_h7 ga_fuel l1 s
      | _ => none)]) (ga_sp_T (List.forall_mem_cons.mpr ⟨fun L S s1 h => (by
      dsimp only at h
      split at h
      · exact t_X12_parseSchool_h7 ga_fuel _  S s1 _ h
      · cases h), fun _ h => nomatch h⟩)) (n := 600) h)
abbrev T_X1_baseOf {α : Type} (P : ga_S) (s0 : ga_M) (K0 : ga_O → Option α) (cfg : ga_C) (r : α) : Prop := ga_T RX1 cX1_baseOf (ga_lk cl_X1_baseOf) gaGP gaCost (fun _ => []) gaCls 83 0 0 false true false none (fun S σ => S = P ∧ σ = s0) K0 cfg r
set_option maxRecDepth 100000 in
theorem t_X1_baseOf (a : Int32) (s : ga_M) (r : Int32) (h : f_X1_baseOf a s = some r) : T_X1_baseOf gaSH s gp_kI (0, [some (.ref 42), some (.int a)], [], gaSH, s, 0, 0) r := (by
    rw [fe_X1_baseOf] at h
    exact ga_T_go (sp := ga_sp []) (ga_sp_T (fun _ h => nomatch h)) (n := 600) h)
abbrev T_X1_mark {α : Type} (P : ga_S) (K0 : ga_O → Option α) (cfg : ga_C) (r : α) : Prop := ga_T RX1 cX1_mark (ga_lk cl_X1_mark) gaG gaCost (fun _ => []) gaCls 83 0 0 false true true none (fun S _ => S = P) K0 cfg r
set_option maxRecDepth 100000 in
theorem t_X1_mark_h123 : ∀ (n : Nat) (l1 : Int32) (l2 : Int32) (S : ga_S) (s : ga_M) (r : ga_M), f_X1_mark_h123 n l1 l2 s = some r → T_X1_mark gaSH ga_kV (123, [some (.ref 42), some (.int l1), some (.int l2)], [], S, s, 0, 0) r := by
  intro n
  induction n with
  | zero => intro l1 l2 S s r h; cases h
  | succ n ih => intro l1 l2 S s r h; exact ga_T_S fun hS => (by
    cases hS
    exact ga_T_go (sp := ga_sp [(123, 0, 0, fun L s => match L with
      | [some (.ref 42), some (.int l1), some (.int l2)] => f_X1_mark_h123 n l1 l2 s
      | _ => none)]) (ga_sp_T (List.forall_mem_cons.mpr ⟨fun L S s1 h => (by
      dsimp only at h
      split at h
      · exact ih _ _  S s1 _ h
      · cases h), fun _ h => nomatch h⟩)) (n := 600) h)
set_option maxRecDepth 100000 in
theorem t_X1_mark_h11 : ∀ (n : Nat) (l1 : Int32) (l2 : Int32) (S : ga_S) (s : ga_M) (r : ga_M), f_X1_mark_h11 n l1 l2 s = some r → T_X1_mark gaSH ga_kV (11, [some (.ref 42), some (.int l1), some (.int l2)], [], S, s, 0, 0) r := by
  intro n
  induction n with
  | zero => intro l1 l2 S s r h; cases h
  | succ n ih => intro l1 l2 S s r h; exact ga_T_S fun hS => (by
    cases hS
    exact ga_T_go (sp := ga_sp [(123, 0, 0, fun L s => match L with
      | [some (.ref 42), some (.int l1), some (.int l2)] => f_X1_mark_h123 ga_fuel l1 l2 s
      | _ => none), (11, 0, 0, fun L s => match L with
      | [some (.ref 42), some (.int l1), some (.int l2)] => f_X1_mark_h11 n l1 l2 s
      | _ => none)]) (ga_sp_T (List.forall_mem_cons.mpr ⟨fun L S s1 h => (by
      dsimp only at h
      split at h
      · exact t_X1_mark_h123 ga_fuel _ _  S s1 _ h
      · cases h), List.forall_mem_cons.mpr ⟨fun L S s1 h => (by
      dsimp only at h
      split at h
      · exact ih _ _  S s1 _ h
      · cases h), fun _ h => nomatch h⟩⟩)) (n := 600) h)
set_option maxRecDepth 100000 in
theorem t_X1_mark (s : ga_M) (r : ga_M) (h : f_X1_mark s = some r) : T_X1_mark gaSH ga_kV (0, [some (.ref 42), none, none], [], gaSH, s, 0, 0) r := (by
    rw [fe_X1_mark] at h
    exact ga_T_go (sp := ga_sp [(11, 0, 0, fun L s => match L with
      | [some (.ref 42), some (.int l1), some (.int l2)] => f_X1_mark_h11 ga_fuel l1 l2 s
      | _ => none)]) (ga_sp_T (List.forall_mem_cons.mpr ⟨fun L S s1 h => (by
      dsimp only at h
      split at h
      · exact t_X1_mark_h11 ga_fuel _ _  S s1 _ h
      · cases h), fun _ h => nomatch h⟩)) (n := 600) h)
abbrev T_X1_keepMarked {α : Type} (P : ga_S) (K0 : ga_O → Option α) (cfg : ga_C) (r : α) : Prop := ga_T RX1 cX1_keepMarked (ga_lk cl_X1_keepMarked) gaG gaCost (fun _ => []) gaCls 83 0 0 false true true none (fun S _ => S = P) K0 cfg r
set_option maxRecDepth 100000 in
theorem t_X1_keepMarked (s : ga_M) (r : ga_M) (h : f_X1_keepMarked s = some r) : T_X1_keepMarked gaSH ga_kV (0, [some (.ref 42)], [], gaSH, s, 0, 0) r := (by
    rw [fe_X1_keepMarked] at h
    exact ga_T_go (sp := ga_sp []) (ga_sp_T (fun _ h => nomatch h)) (n := 600) h)
abbrev T_X1_restoreMarked {α : Type} (P : ga_S) (K0 : ga_O → Option α) (cfg : ga_C) (r : α) : Prop := ga_T RX1 cX1_restoreMarked (ga_lk cl_X1_restoreMarked) gaG gaCost (fun _ => []) gaCls 83 0 0 false true true none (fun S _ => S = P) K0 cfg r
set_option maxRecDepth 100000 in
theorem t_X1_restoreMarked_h123 : ∀ (n : Nat) (l1 : Int32) (l2 : Int32) (S : ga_S) (s : ga_M) (r : ga_M), f_X1_restoreMarked_h123 n l1 l2 s = some r → T_X1_restoreMarked gaSH ga_kV (123, [some (.ref 42), some (.int l1), some (.int l2)], [], S, s, 0, 0) r := by
  intro n
  induction n with
  | zero => intro l1 l2 S s r h; cases h
  | succ n ih => intro l1 l2 S s r h; exact ga_T_S fun hS => (by
    cases hS
    exact ga_T_go (sp := ga_sp [(123, 0, 0, fun L s => match L with
      | [some (.ref 42), some (.int l1), some (.int l2)] => f_X1_restoreMarked_h123 n l1 l2 s
      | _ => none)]) (ga_sp_T (List.forall_mem_cons.mpr ⟨fun L S s1 h => (by
      dsimp only at h
      split at h
      · exact ih _ _  S s1 _ h
      · cases h), fun _ h => nomatch h⟩)) (n := 600) h)
set_option maxRecDepth 100000 in
theorem t_X1_restoreMarked_h11 : ∀ (n : Nat) (l1 : Int32) (l2 : Int32) (S : ga_S) (s : ga_M) (r : ga_M), f_X1_restoreMarked_h11 n l1 l2 s = some r → T_X1_restoreMarked gaSH ga_kV (11, [some (.ref 42), some (.int l1), some (.int l2)], [], S, s, 0, 0) r := by
  intro n
  induction n with
  | zero => intro l1 l2 S s r h; cases h
  | succ n ih => intro l1 l2 S s r h; exact ga_T_S fun hS => (by
    cases hS
    exact ga_T_go (sp := ga_sp [(123, 0, 0, fun L s => match L with
      | [some (.ref 42), some (.int l1), some (.int l2)] => f_X1_restoreMarked_h123 ga_fuel l1 l2 s
      | _ => none), (11, 0, 0, fun L s => match L with
      | [some (.ref 42), some (.int l1), some (.int l2)] => f_X1_restoreMarked_h11 n l1 l2 s
      | _ => none)]) (ga_sp_T (List.forall_mem_cons.mpr ⟨fun L S s1 h => (by
      dsimp only at h
      split at h
      · exact t_X1_restoreMarked_h123 ga_fuel _ _  S s1 _ h
      · cases h), List.forall_mem_cons.mpr ⟨fun L S s1 h => (by
      dsimp only at h
      split at h
      · exact ih _ _  S s1 _ h
      · cases h), fun _ h => nomatch h⟩⟩)) (n := 600) h)
set_option maxRecDepth 100000 in
theorem t_X1_restoreMarked (s : ga_M) (r : ga_M) (h : f_X1_restoreMarked s = some r) : T_X1_restoreMarked gaSH ga_kV (0, [some (.ref 42), none, none], [], gaSH, s, 0, 0) r := (by
    rw [fe_X1_restoreMarked] at h
    exact ga_T_go (sp := ga_sp [(11, 0, 0, fun L s => match L with
      | [some (.ref 42), some (.int l1), some (.int l2)] => f_X1_restoreMarked_h11 ga_fuel l1 l2 s
      | _ => none)]) (ga_sp_T (List.forall_mem_cons.mpr ⟨fun L S s1 h => (by
      dsimp only at h
      split at h
      · exact t_X1_restoreMarked_h11 ga_fuel _ _  S s1 _ h
      · cases h), fun _ h => nomatch h⟩)) (n := 600) h)
abbrev T_X9_wordOf {α : Type} (P : ga_S) (s0 : ga_M) (K0 : ga_O → Option α) (cfg : ga_C) (r : α) : Prop := ga_T RX9 cX9_wordOf (ga_lk cl_X9_wordOf) gaGP gaCost (fun _ => []) gaCls 83 0 0 false true false none (fun S σ => S = P ∧ σ = s0) K0 cfg r
set_option maxRecDepth 100000 in
theorem t_X9_wordOf (a : Int32) (s : ga_M) (r : Nat) (h : f_X9_wordOf a s = some r) : T_X9_wordOf gaSH s gp_kA (0, [some (.int a)], [], gaSH, s, 0, 0) r := (by
    rw [fe_X9_wordOf] at h
    exact ga_T_go (sp := ga_sp []) (ga_sp_T (fun _ h => nomatch h)) (n := 600) h)
abbrev T_X9_findStep {α : Type} (P : ga_S) (s0 : ga_M) (K0 : ga_O → Option α) (cfg : ga_C) (r : α) : Prop := ga_T RX9 cX9_findStep (ga_lk cl_X9_findStep) gaGP gaCost (fun _ => []) gaCls 83 0 0 false true false none (fun S σ => S = P ∧ σ = s0) K0 cfg r
set_option maxRecDepth 100000 in
theorem t_X9_findStep_h2 (s0 : ga_M) : ∀ (n : Nat) (l1 : Int32) (S : ga_S) (s : ga_M) (r : Int32), f_X9_findStep_h2 n l1 s = some r → T_X9_findStep gaSH s0 gp_kI (2, [some (.ref 68), some (.int l1)], [], S, s, 0, 0) r := by
  intro n
  induction n with
  | zero => intro l1 S s r h; cases h
  | succ n ih => intro l1 S s r h; exact ga_T_S fun hS => (by
    obtain ⟨rfl, rfl⟩ := hS
    exact ga_T_go (sp := ga_sp [(2, 0, 0, fun L s => match L with
      | [some (.ref 68), some (.int l1)] => f_X9_findStep_h2 n l1 s
      | _ => none)]) (ga_sp_T (List.forall_mem_cons.mpr ⟨fun L S s1 h => (by
      dsimp only at h
      split at h
      · exact ih _  S s1 _ h
      · cases h), fun _ h => nomatch h⟩)) (n := 600) h)
set_option maxRecDepth 100000 in
theorem t_X9_findStep (s : ga_M) (r : Int32) (h : f_X9_findStep s = some r) : T_X9_findStep gaSH s gp_kI (0, [some (.ref 68), none], [], gaSH, s, 0, 0) r := (by
    rw [fe_X9_findStep] at h
    exact ga_T_go (sp := ga_sp [(2, 0, 0, fun L s => match L with
      | [some (.ref 68), some (.int l1)] => f_X9_findStep_h2 ga_fuel l1 s
      | _ => none)]) (ga_sp_T (List.forall_mem_cons.mpr ⟨fun L S s1 h => (by
      dsimp only at h
      split at h
      · exact t_X9_findStep_h2 s ga_fuel _  S s1 _ h
      · cases h), fun _ h => nomatch h⟩)) (n := 600) h)
abbrev T_X9_numbersOf {α : Type} (P : ga_S) (s0 : ga_M) (K0 : ga_O → Option α) (cfg : ga_C) (r : α) : Prop := ga_T RX9 cX9_numbersOf (ga_lk cl_X9_numbersOf) gaGP gaCost (fun _ => []) gaCls 83 0 0 false true false none (fun S σ => S = P ∧ σ = s0) K0 cfg r
set_option maxRecDepth 100000 in
theorem t_X9_numbersOf (a : Int32) (s : ga_M) (r : Int32) (h : f_X9_numbersOf a s = some r) : T_X9_numbersOf gaSH s gp_kI (0, [some (.int a)], [], gaSH, s, 0, 0) r := (by
    rw [fe_X9_numbersOf] at h
    exact ga_T_go (sp := ga_sp []) (ga_sp_T (fun _ h => nomatch h)) (n := 600) h)
abbrev T_X9_readStep {α : Type} (P : ga_S) (K0 : ga_O → Option α) (cfg : ga_C) (r : α) : Prop := ga_T RX9 cX9_readStep (ga_lk cl_X9_readStep) gaG gaCost (fun _ => []) gaCls 83 0 0 false true true none (fun S _ => S = P) K0 cfg r
set_option maxRecDepth 100000 in
theorem t_X9_readStep_h60 : ∀ (n : Nat) (l1 : Int32) (l2 : Int32) (S : ga_S) (s : ga_M) (r : Int32 × ga_M), f_X9_readStep_h60 n l1 l2 s = some r → T_X9_readStep gaSH ga_kI (60, [some (.ref 68), some (.int l1), some (.int l2)], [], S, s, 0, 0) r := by
  intro n
  induction n with
  | zero => intro l1 l2 S s r h; cases h
  | succ n ih => intro l1 l2 S s r h; exact ga_T_S fun hS => (by
    cases hS
    exact ga_T_go (sp := ga_sp [(60, 0, 0, fun L s => match L with
      | [some (.ref 68), some (.int l1), some (.int l2)] => f_X9_readStep_h60 n l1 l2 s
      | _ => none)]) (ga_sp_T (List.forall_mem_cons.mpr ⟨fun L S s1 h => (by
      dsimp only at h
      split at h
      · exact ih _ _  S s1 _ h
      · cases h), fun _ h => nomatch h⟩)) (n := 600) h)
set_option maxRecDepth 100000 in
theorem t_X9_readStep (s : ga_M) (r : Int32 × ga_M) (h : f_X9_readStep s = some r) : T_X9_readStep gaSH ga_kI (0, [some (.ref 68), none, none], [], gaSH, s, 0, 0) r := (by
    rw [fe_X9_readStep] at h
    exact ga_T_go (sp := ga_sp [(60, 0, 0, fun L s => match L with
      | [some (.ref 68), some (.int l1), some (.int l2)] => f_X9_readStep_h60 ga_fuel l1 l2 s
      | _ => none)]) (ga_sp_T (List.forall_mem_cons.mpr ⟨fun L S s1 h => (by
      dsimp only at h
      split at h
      · exact t_X9_readStep_h60 ga_fuel _ _  S s1 _ h
      · cases h), fun _ h => nomatch h⟩)) (n := 600) h)
set_option maxRecDepth 100000 in
theorem t_X7_hasTeacher (a : Int32) (s : ga_M) (r : Int32) (h : f_X7_hasTeacher a s = some r) : T_X7_hasTeacher gaSH s gp_kI (0, [some (.ref 1), some (.int a)], [], gaSH, s, 0, 0) r := (by
    rw [fe_X7_hasTeacher] at h
    exact ga_T_go (sp := ga_sp []) (ga_sp_T (fun _ h => nomatch h)) (n := 600) h)
abbrev T_X7_hasDay {α : Type} (P : ga_S) (s0 : ga_M) (K0 : ga_O → Option α) (cfg : ga_C) (r : α) : Prop := ga_T RX7 cX7_hasDay (ga_lk cl_X7_hasDay) gaGP gaCost (fun _ => []) gaCls 83 0 0 false true false none (fun S σ => S = P ∧ σ = s0) K0 cfg r
set_option maxRecDepth 100000 in
theorem t_X7_hasDay (a : Int32) (s : ga_M) (r : Int32) (h : f_X7_hasDay a s = some r) : T_X7_hasDay gaSH s gp_kI (0, [some (.ref 1), some (.int a)], [], gaSH, s, 0, 0) r := (by
    rw [fe_X7_hasDay] at h
    exact ga_T_go (sp := ga_sp []) (ga_sp_T (fun _ h => nomatch h)) (n := 600) h)
abbrev T_X3_makeOpen {α : Type} (P : ga_S) (K0 : ga_O → Option α) (cfg : ga_C) (r : α) : Prop := ga_T RX3 cX3_makeOpen (ga_lk cl_X3_makeOpen) gaG gaCost (fun _ => []) gaCls 83 0 0 false true true none (fun S _ => S = P) K0 cfg r
set_option maxRecDepth 100000 in
theorem t_X3_makeOpen (a : Int32) (s : ga_M) (r : ga_M) (h : f_X3_makeOpen a s = some r) : T_X3_makeOpen gaSH ga_kV (0, [some (.ref 20), some (.int a)], [], gaSH, s, 0, 0) r := (by
    rw [fe_X3_makeOpen] at h
    exact ga_T_go (sp := ga_sp []) (ga_sp_T (fun _ h => nomatch h)) (n := 600) h)
abbrev T_X2_letBeAbsent {α : Type} (P : ga_S) (K0 : ga_O → Option α) (cfg : ga_C) (r : α) : Prop := ga_T RX2 cX2_letBeAbsent (ga_lk cl_X2_letBeAbsent) gaG gaCost (fun _ => []) gaCls 83 0 0 false true true none (fun S _ => S = P) K0 cfg r
set_option maxRecDepth 100000 in
theorem t_X2_letBeAbsent_h61 : ∀ (n : Nat) (l1 : Int32) (l2 : Int32) (l5 : Int32) (l6 : Int32) (w0 : Option Value) (w1 : Option Value) (S : ga_S) (s : ga_M) (r : Int32 × ga_M), f_X2_letBeAbsent_h61 n l1 l2 l5 l6 s = some r → T_X2_letBeAbsent gaSH ga_kI (61, [some (.ref 41), some (.int l1), some (.int l2), w0, w1, some (.int l5), some (.int l6)], [], S, s, 0, 0) r := by
  intro n
  induction n with
  | zero => intro l1 l2 l5 l6 w0 w1 S s r h; cases h
  | succ n ih => intro l1 l2 l5 l6 w0 w1 S s r h; exact ga_T_S fun hS => (by
    cases hS
    exact ga_T_go (sp := ga_sp [(61, 0, 0, fun L s => match L with
      | [some (.ref 41), some (.int l1), some (.int l2), _, _, some (.int l5), some (.int l6)] => f_X2_letBeAbsent_h61 n l1 l2 l5 l6 s
      | _ => none)]) (ga_sp_T (List.forall_mem_cons.mpr ⟨fun L S s1 h => (by
      dsimp only at h
      split at h
      · exact ih _ _ _ _ _ _ S s1 _ h
      · cases h), fun _ h => nomatch h⟩)) (n := 600) h)
set_option maxRecDepth 100000 in
theorem t_X2_letBeAbsent (a : Int32) (b : Int32) (c : Int32) (s : ga_M) (r : Int32 × ga_M) (h : f_X2_letBeAbsent a b c s = some r) : T_X2_letBeAbsent gaSH ga_kI (0, [some (.ref 41), some (.int a), some (.int b), some (.int c), none, none, none], [], gaSH, s, 0, 0) r := (by
    rw [fe_X2_letBeAbsent] at h
    exact ga_T_go (sp := ga_sp [(61, 0, 0, fun L s => match L with
      | [some (.ref 41), some (.int l1), some (.int l2), _, _, some (.int l5), some (.int l6)] => f_X2_letBeAbsent_h61 ga_fuel l1 l2 l5 l6 s
      | _ => none)]) (ga_sp_T (List.forall_mem_cons.mpr ⟨fun L S s1 h => (by
      dsimp only at h
      split at h
      · exact t_X2_letBeAbsent_h61 ga_fuel _ _ _ _ _ _ S s1 _ h
      · cases h), fun _ h => nomatch h⟩)) (n := 600) h)
abbrev T_X7_hasLesson {α : Type} (P : ga_S) (s0 : ga_M) (K0 : ga_O → Option α) (cfg : ga_C) (r : α) : Prop := ga_T RX7 cX7_hasLesson (ga_lk cl_X7_hasLesson) gaGP gaCost (fun _ => []) gaCls 83 0 0 false true false none (fun S σ => S = P ∧ σ = s0) K0 cfg r
set_option maxRecDepth 100000 in
theorem t_X7_hasLesson (a : Int32) (s : ga_M) (r : Int32) (h : f_X7_hasLesson a s = some r) : T_X7_hasLesson gaSH s gp_kI (0, [some (.ref 1), some (.int a)], [], gaSH, s, 0, 0) r := (by
    rw [fe_X7_hasLesson] at h
    exact ga_T_go (sp := ga_sp []) (ga_sp_T (fun _ h => nomatch h)) (n := 600) h)
abbrev T_X3_isOpen {α : Type} (P : ga_S) (s0 : ga_M) (K0 : ga_O → Option α) (cfg : ga_C) (r : α) : Prop := ga_T RX3 cX3_isOpen (ga_lk cl_X3_isOpen) gaGP gaCost (fun _ => []) gaCls 83 0 0 false true false none (fun S σ => S = P ∧ σ = s0) K0 cfg r
set_option maxRecDepth 100000 in
theorem t_X3_isOpen (a : Int32) (s : ga_M) (r : Int32) (h : f_X3_isOpen a s = some r) : T_X3_isOpen gaSH s gp_kI (0, [some (.ref 20), some (.int a)], [], gaSH, s, 0, 0) r := (by
    rw [fe_X3_isOpen] at h
    exact ga_T_go (sp := ga_sp []) (ga_sp_T (fun _ h => nomatch h)) (n := 600) h)
abbrev T_X2_openAgain {α : Type} (P : ga_S) (K0 : ga_O → Option α) (cfg : ga_C) (r : α) : Prop := ga_T RX2 cX2_openAgain (ga_lk cl_X2_openAgain) gaG gaCost (fun _ => []) gaCls 83 0 0 false true true none (fun S _ => S = P) K0 cfg r
set_option maxRecDepth 100000 in
theorem t_X2_openAgain (a : Int32) (s : ga_M) (r : Int32 × ga_M) (h : f_X2_openAgain a s = some r) : T_X2_openAgain gaSH ga_kI (0, [some (.ref 41), some (.int a)], [], gaSH, s, 0, 0) r := (by
    rw [fe_X2_openAgain] at h
    exact ga_T_go (sp := ga_sp []) (ga_sp_T (fun _ h => nomatch h)) (n := 600) h)
abbrev T_X0_presentAt {α : Type} (P : ga_S) (s0 : ga_M) (K0 : ga_O → Option α) (cfg : ga_C) (r : α) : Prop := ga_T RX0 cX0_presentAt (ga_lk cl_X0_presentAt) gaGP gaCost (fun _ => []) gaCls 83 0 0 false true false none (fun S σ => S = P ∧ σ = s0) K0 cfg r
set_option maxRecDepth 100000 in
theorem t_X0_presentAt_h14 (s0 : ga_M) : ∀ (n : Nat) (l2 : Int32) (l3 : Int32) (l4 : Int32) (w0 : Option Value) (S : ga_S) (s : ga_M) (r : Int32), f_X0_presentAt_h14 n l2 l3 l4 s = some r → T_X0_presentAt gaSH s0 gp_kI (14, [some (.ref 32), w0, some (.int l2), some (.int l3), some (.int l4)], [], S, s, 0, 0) r := by
  intro n
  induction n with
  | zero => intro l2 l3 l4 w0 S s r h; cases h
  | succ n ih => intro l2 l3 l4 w0 S s r h; exact ga_T_S fun hS => (by
    obtain ⟨rfl, rfl⟩ := hS
    exact ga_T_go (sp := ga_sp [(14, 0, 0, fun L s => match L with
      | [some (.ref 32), _, some (.int l2), some (.int l3), some (.int l4)] => f_X0_presentAt_h14 n l2 l3 l4 s
      | _ => none)]) (ga_sp_T (List.forall_mem_cons.mpr ⟨fun L S s1 h => (by
      dsimp only at h
      split at h
      · exact ih _ _ _ _ S s1 _ h
      · cases h), fun _ h => nomatch h⟩)) (n := 600) h)
set_option maxRecDepth 100000 in
theorem t_X0_presentAt (a : Int32) (s : ga_M) (r : Int32) (h : f_X0_presentAt a s = some r) : T_X0_presentAt gaSH s gp_kI (0, [some (.ref 32), some (.int a), none, none, none], [], gaSH, s, 0, 0) r := (by
    rw [fe_X0_presentAt] at h
    exact ga_T_go (sp := ga_sp [(14, 0, 0, fun L s => match L with
      | [some (.ref 32), _, some (.int l2), some (.int l3), some (.int l4)] => f_X0_presentAt_h14 ga_fuel l2 l3 l4 s
      | _ => none)]) (ga_sp_T (List.forall_mem_cons.mpr ⟨fun L S s1 h => (by
      dsimp only at h
      split at h
      · exact t_X0_presentAt_h14 s ga_fuel _ _ _ _ S s1 _ h
      · cases h), fun _ h => nomatch h⟩)) (n := 600) h)
abbrev T_X3_isTaught {α : Type} (P : ga_S) (s0 : ga_M) (K0 : ga_O → Option α) (cfg : ga_C) (r : α) : Prop := ga_T RX3 cX3_isTaught (ga_lk cl_X3_isTaught) gaGP gaCost (fun _ => []) gaCls 83 0 0 false true false none (fun S σ => S = P ∧ σ = s0) K0 cfg r
set_option maxRecDepth 100000 in
theorem t_X3_isTaught (a : Int32) (s : ga_M) (r : Int32) (h : f_X3_isTaught a s = some r) : T_X3_isTaught gaSH s gp_kI (0, [some (.ref 20), some (.int a)], [], gaSH, s, 0, 0) r := (by
    rw [fe_X3_isTaught] at h
    exact ga_T_go (sp := ga_sp []) (ga_sp_T (fun _ h => nomatch h)) (n := 600) h)
abbrev T_X7_qualifiedFor {α : Type} (P : ga_S) (s0 : ga_M) (K0 : ga_O → Option α) (cfg : ga_C) (r : α) : Prop := ga_T RX7 cX7_qualifiedFor (ga_lk cl_X7_qualifiedFor) gaGP gaCost (fun _ => []) gaCls 83 0 0 false true false none (fun S σ => S = P ∧ σ = s0) K0 cfg r
set_option maxRecDepth 100000 in
theorem t_X7_qualifiedFor_h4 (s0 : ga_M) : ∀ (n : Nat) (l1 : Int32) (l2 : Int32) (l3 : Int32) (S : ga_S) (s : ga_M) (r : Int32), f_X7_qualifiedFor_h4 n l1 l2 l3 s = some r → T_X7_qualifiedFor gaSH s0 gp_kI (4, [some (.ref 1), some (.int l1), some (.int l2), some (.int l3)], [], S, s, 0, 0) r := by
  intro n
  induction n with
  | zero => intro l1 l2 l3 S s r h; cases h
  | succ n ih => intro l1 l2 l3 S s r h; exact ga_T_S fun hS => (by
    obtain ⟨rfl, rfl⟩ := hS
    exact ga_T_go (sp := ga_sp [(4, 0, 0, fun L s => match L with
      | [some (.ref 1), some (.int l1), some (.int l2), some (.int l3)] => f_X7_qualifiedFor_h4 n l1 l2 l3 s
      | _ => none)]) (ga_sp_T (List.forall_mem_cons.mpr ⟨fun L S s1 h => (by
      dsimp only at h
      split at h
      · exact ih _ _ _  S s1 _ h
      · cases h), fun _ h => nomatch h⟩)) (n := 600) h)
set_option maxRecDepth 100000 in
theorem t_X7_qualifiedFor (a : Int32) (s : ga_M) (r : Int32) (h : f_X7_qualifiedFor a s = some r) : T_X7_qualifiedFor gaSH s gp_kI (0, [some (.ref 1), some (.int a), none, none], [], gaSH, s, 0, 0) r := (by
    rw [fe_X7_qualifiedFor] at h
    exact ga_T_go (sp := ga_sp [(4, 0, 0, fun L s => match L with
      | [some (.ref 1), some (.int l1), some (.int l2), some (.int l3)] => f_X7_qualifiedFor_h4 ga_fuel l1 l2 l3 s
      | _ => none)]) (ga_sp_T (List.forall_mem_cons.mpr ⟨fun L S s1 h => (by
      dsimp only at h
      split at h
      · exact t_X7_qualifiedFor_h4 s ga_fuel _ _ _  S s1 _ h
      · cases h), fun _ h => nomatch h⟩)) (n := 600) h)
abbrev T_X0_busyAt {α : Type} (P : ga_S) (K0 : ga_O → Option α) (cfg : ga_C) (r : α) : Prop := ga_T RX0 cX0_busyAt (ga_lk cl_X0_busyAt) gaG gaCost (fun _ => []) gaCls 83 0 0 false true true none (fun S _ => S = P) K0 cfg r
set_option maxRecDepth 100000 in
theorem t_X0_busyAt_h28 : ∀ (n : Nat) (l1 : Int32) (l2 : Int32) (l3 : Int32) (l4 : Int32) (S : ga_S) (s : ga_M) (r : Int32 × ga_M), f_X0_busyAt_h28 n l1 l2 l3 l4 s = some r → T_X0_busyAt gaSH ga_kI (28, [some (.ref 32), some (.int l1), some (.int l2), some (.int l3), some (.int l4)], [], S, s, 0, 0) r := by
  intro n
  induction n with
  | zero => intro l1 l2 l3 l4 S s r h; cases h
  | succ n ih => intro l1 l2 l3 l4 S s r h; exact ga_T_S fun hS => (by
    cases hS
    exact ga_T_go (sp := ga_sp [(28, 0, 0, fun L s => match L with
      | [some (.ref 32), some (.int l1), some (.int l2), some (.int l3), some (.int l4)] => f_X0_busyAt_h28 n l1 l2 l3 l4 s
      | _ => none)]) (ga_sp_T (List.forall_mem_cons.mpr ⟨fun L S s1 h => (by
      dsimp only at h
      split at h
      · exact ih _ _ _ _  S s1 _ h
      · cases h), fun _ h => nomatch h⟩)) (n := 600) h)
set_option maxRecDepth 100000 in
theorem t_X0_busyAt_h2 : ∀ (n : Nat) (l1 : Int32) (l2 : Int32) (l3 : Int32) (w0 : Option Value) (S : ga_S) (s : ga_M) (r : Int32 × ga_M), f_X0_busyAt_h2 n l1 l2 l3 s = some r → T_X0_busyAt gaSH ga_kI (2, [some (.ref 32), some (.int l1), some (.int l2), some (.int l3), w0], [], S, s, 0, 0) r := by
  intro n
  induction n with
  | zero => intro l1 l2 l3 w0 S s r h; cases h
  | succ n ih => intro l1 l2 l3 w0 S s r h; exact ga_T_S fun hS => (by
    cases hS
    exact ga_T_go (sp := ga_sp [(28, 0, 0, fun L s => match L with
      | [some (.ref 32), some (.int l1), some (.int l2), some (.int l3), some (.int l4)] => f_X0_busyAt_h28 ga_fuel l1 l2 l3 l4 s
      | _ => none), (2, 0, 0, fun L s => match L with
      | [some (.ref 32), some (.int l1), some (.int l2), some (.int l3), _] => f_X0_busyAt_h2 n l1 l2 l3 s
      | _ => none)]) (ga_sp_T (List.forall_mem_cons.mpr ⟨fun L S s1 h => (by
      dsimp only at h
      split at h
      · exact t_X0_busyAt_h28 ga_fuel _ _ _ _  S s1 _ h
      · cases h), List.forall_mem_cons.mpr ⟨fun L S s1 h => (by
      dsimp only at h
      split at h
      · exact ih _ _ _ _ S s1 _ h
      · cases h), fun _ h => nomatch h⟩⟩)) (n := 600) h)
set_option maxRecDepth 100000 in
theorem t_X0_busyAt (a : Int32) (b : Int32) (s : ga_M) (r : Int32 × ga_M) (h : f_X0_busyAt a b s = some r) : T_X0_busyAt gaSH ga_kI (0, [some (.ref 32), some (.int a), some (.int b), none, none], [], gaSH, s, 0, 0) r := (by
    rw [fe_X0_busyAt] at h
    exact ga_T_go (sp := ga_sp [(2, 0, 0, fun L s => match L with
      | [some (.ref 32), some (.int l1), some (.int l2), some (.int l3), _] => f_X0_busyAt_h2 ga_fuel l1 l2 l3 s
      | _ => none)]) (ga_sp_T (List.forall_mem_cons.mpr ⟨fun L S s1 h => (by
      dsimp only at h
      split at h
      · exact t_X0_busyAt_h2 ga_fuel _ _ _ _ S s1 _ h
      · cases h), fun _ h => nomatch h⟩)) (n := 600) h)
abbrev T_X3_loadOf {α : Type} (P : ga_S) (s0 : ga_M) (K0 : ga_O → Option α) (cfg : ga_C) (r : α) : Prop := ga_T RX3 cX3_loadOf (ga_lk cl_X3_loadOf) gaGP gaCost (fun _ => []) gaCls 83 0 0 false true false none (fun S σ => S = P ∧ σ = s0) K0 cfg r
set_option maxRecDepth 100000 in
theorem t_X3_loadOf_h4 (s0 : ga_M) : ∀ (n : Nat) (l1 : Int32) (l2 : Int32) (l3 : Int32) (S : ga_S) (s : ga_M) (r : Int32), f_X3_loadOf_h4 n l1 l2 l3 s = some r → T_X3_loadOf gaSH s0 gp_kI (4, [some (.ref 20), some (.int l1), some (.int l2), some (.int l3)], [], S, s, 0, 0) r := by
  intro n
  induction n with
  | zero => intro l1 l2 l3 S s r h; cases h
  | succ n ih => intro l1 l2 l3 S s r h; exact ga_T_S fun hS => (by
    obtain ⟨rfl, rfl⟩ := hS
    exact ga_T_go (sp := ga_sp [(4, 0, 0, fun L s => match L with
      | [some (.ref 20), some (.int l1), some (.int l2), some (.int l3)] => f_X3_loadOf_h4 n l1 l2 l3 s
      | _ => none)]) (ga_sp_T (List.forall_mem_cons.mpr ⟨fun L S s1 h => (by
      dsimp only at h
      split at h
      · exact ih _ _ _  S s1 _ h
      · cases h), fun _ h => nomatch h⟩)) (n := 600) h)
set_option maxRecDepth 100000 in
theorem t_X3_loadOf (a : Int32) (s : ga_M) (r : Int32) (h : f_X3_loadOf a s = some r) : T_X3_loadOf gaSH s gp_kI (0, [some (.ref 20), some (.int a), none, none], [], gaSH, s, 0, 0) r := (by
    rw [fe_X3_loadOf] at h
    exact ga_T_go (sp := ga_sp [(4, 0, 0, fun L s => match L with
      | [some (.ref 20), some (.int l1), some (.int l2), some (.int l3)] => f_X3_loadOf_h4 ga_fuel l1 l2 l3 s
      | _ => none)]) (ga_sp_T (List.forall_mem_cons.mpr ⟨fun L S s1 h => (by
      dsimp only at h
      split at h
      · exact t_X3_loadOf_h4 s ga_fuel _ _ _  S s1 _ h
      · cases h), fun _ h => nomatch h⟩)) (n := 600) h)
abbrev T_X0_leastLoaded {α : Type} (P : ga_S) (s0 : ga_M) (K0 : ga_O → Option α) (cfg : ga_C) (r : α) : Prop := ga_T RX0 cX0_leastLoaded (ga_lk cl_X0_leastLoaded) gaGP gaCost (fun _ => []) gaCls 83 0 0 false true false none (fun S σ => S = P ∧ σ = s0) K0 cfg r
set_option maxRecDepth 100000 in
theorem t_X0_leastLoaded_h7 (s0 : ga_M) : ∀ (n : Nat) (l1 : Int32) (l2 : Int32) (l3 : Int32) (l4 : Int32) (w0 : Option Value) (S : ga_S) (s : ga_M) (r : Int32), f_X0_leastLoaded_h7 n l1 l2 l3 l4 s = some r → T_X0_leastLoaded gaSH s0 gp_kI (7, [some (.ref 32), some (.int l1), some (.int l2), some (.int l3), some (.int l4), w0], [], S, s, 0, 0) r := by
  intro n
  induction n with
  | zero => intro l1 l2 l3 l4 w0 S s r h; cases h
  | succ n ih => intro l1 l2 l3 l4 w0 S s r h; exact ga_T_S fun hS => (by
    obtain ⟨rfl, rfl⟩ := hS
    exact ga_T_go (sp := ga_sp [(7, 0, 0, fun L s => match L with
      | [some (.ref 32), some (.int l1), some (.int l2), some (.int l3), some (.int l4), _] => f_X0_leastLoaded_h7 n l1 l2 l3 l4 s
      | _ => none)]) (ga_sp_T (List.forall_mem_cons.mpr ⟨fun L S s1 h => (by
      dsimp only at h
      split at h
      · exact ih _ _ _ _ _ S s1 _ h
      · cases h), fun _ h => nomatch h⟩)) (n := 600) h)
set_option maxRecDepth 100000 in
theorem t_X0_leastLoaded (a : Int32) (s : ga_M) (r : Int32) (h : f_X0_leastLoaded a s = some r) : T_X0_leastLoaded gaSH s gp_kI (0, [some (.ref 32), some (.int a), none, none, none, none], [], gaSH, s, 0, 0) r := (by
    rw [fe_X0_leastLoaded] at h
    exact ga_T_go (sp := ga_sp [(7, 0, 0, fun L s => match L with
      | [some (.ref 32), some (.int l1), some (.int l2), some (.int l3), some (.int l4), _] => f_X0_leastLoaded_h7 ga_fuel l1 l2 l3 l4 s
      | _ => none)]) (ga_sp_T (List.forall_mem_cons.mpr ⟨fun L S s1 h => (by
      dsimp only at h
      split at h
      · exact t_X0_leastLoaded_h7 s ga_fuel _ _ _ _ _ S s1 _ h
      · cases h), fun _ h => nomatch h⟩)) (n := 600) h)
