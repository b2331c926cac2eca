abbrev T_X0_successorsOf {α : Type} (P : ga_S) (s0 : ga_M) (K0 : ga_O → Option α) (cfg : ga_C) (r : α) : Prop := ga_T RX0 cX0_successorsOf (ga_lk cl_X0_successorsOf) gaGP gaCost (fun _ => []) gaCls 83 0 0 false true false none (fun S σ => S = P ∧ σ = s0) K0 cfg r
set_option maxRecDepth 100000 in
theorem t_X0_successorsOf_h4 (s0 : ga_M) : ∀ (n : Nat) (l1 : Int32) (l2 : Int32) (l3 : Int32) (S : ga_S) (s : ga_M) (r : Int32), f_X0_successorsOf_h4 n l1 l2 l3 s = some r → T_X0_successorsOf gaSH s0 gp_kI (4, [some (.ref 32), some (.int l1), some (.int l2), some (.int l3)], [], S, s, 0, 0) r := by
  intro n
  induction n with
  | zero => intro l1 l2 l3 S s r h; cases h
  | succ n ih => intro l1 l2 l3 S s r h; exact ga_T_S fun hS => (by
    obtain ⟨rfl, rfl⟩ := hS
    exact ga_T_go (sp := ga_sp [(4, 0, 0, fun L s => match L with
      | [some (.ref 32), some (.int l1), some (.int l2), some (.int l3)] => f_X0_successorsOf_h4 n l1 l2 l3 s
      | _ => none)]) (ga_sp_T (List.forall_mem_cons.mpr ⟨fun L S s1 h => (by
      dsimp only at h
      split at h
      · exact ih _ _ _  S s1 _ h
      · cases h), fun _ h => nomatch h⟩)) (n := 600) h)
set_option maxRecDepth 100000 in
theorem t_X0_successorsOf (a : Int32) (s : ga_M) (r : Int32) (h : f_X0_successorsOf a s = some r) : T_X0_successorsOf gaSH s gp_kI (0, [some (.ref 32), some (.int a), none, none], [], gaSH, s, 0, 0) r := (by
    rw [fe_X0_successorsOf] at h
    exact ga_T_go (sp := ga_sp [(4, 0, 0, fun L s => match L with
      | [some (.ref 32), some (.int l1), some (.int l2), some (.int l3)] => f_X0_successorsOf_h4 ga_fuel l1 l2 l3 s
      | _ => none)]) (ga_sp_T (List.forall_mem_cons.mpr ⟨fun L S s1 h => (by
      dsimp only at h
      split at h
      · exact t_X0_successorsOf_h4 s ga_fuel _ _ _  S s1 _ h
      · cases h), fun _ h => nomatch h⟩)) (n := 600) h)
abbrev T_X0_thoseBefore {α : Type} (P : ga_S) (s0 : ga_M) (K0 : ga_O → Option α) (cfg : ga_C) (r : α) : Prop := ga_T RX0 cX0_thoseBefore (ga_lk cl_X0_thoseBefore) gaGP gaCost (fun _ => []) gaCls 83 0 0 false true false none (fun S σ => S = P ∧ σ = s0) K0 cfg r
set_option maxRecDepth 100000 in
theorem t_X0_thoseBefore_h5 (s0 : ga_M) : ∀ (n : Nat) (l1 : Int32) (l2 : Int32) (l3 : Int32) (l4 : Int32) (S : ga_S) (s : ga_M) (r : Int32), f_X0_thoseBefore_h5 n l1 l2 l3 l4 s = some r → T_X0_thoseBefore gaSH s0 gp_kI (5, [some (.ref 32), some (.int l1), some (.int l2), some (.int l3), some (.int l4)], [], S, s, 0, 0) r := by
  intro n
  induction n with
  | zero => intro l1 l2 l3 l4 S s r h; cases h
  | succ n ih => intro l1 l2 l3 l4 S s r h; exact ga_T_S fun hS => (by
    obtain ⟨rfl, rfl⟩ := hS
    exact ga_T_go (sp := ga_sp [(5, 0, 0, fun L s => match L with
      | [some (.ref 32), some (.int l1), some (.int l2), some (.int l3), some (.int l4)] => f_X0_thoseBefore_h5 n l1 l2 l3 l4 s
      | _ => none)]) (ga_sp_T (List.forall_mem_cons.mpr ⟨fun L S s1 h => (by
      dsimp only at h
      split at h
      · exact ih _ _ _ _  S s1 _ h
      · cases h), fun _ h => nomatch h⟩)) (n := 600) h)
set_option maxRecDepth 100000 in
theorem t_X0_thoseBefore (a : Int32) (b : Int32) (s : ga_M) (r : Int32) (h : f_X0_thoseBefore a b s = some r) : T_X0_thoseBefore gaSH s gp_kI (0, [some (.ref 32), some (.int a), some (.int b), none, none], [], gaSH, s, 0, 0) r := (by
    rw [fe_X0_thoseBefore] at h
    exact ga_T_go (sp := ga_sp [(5, 0, 0, fun L s => match L with
      | [some (.ref 32), some (.int l1), some (.int l2), some (.int l3), some (.int l4)] => f_X0_thoseBefore_h5 ga_fuel l1 l2 l3 l4 s
      | _ => none)]) (ga_sp_T (List.forall_mem_cons.mpr ⟨fun L S s1 h => (by
      dsimp only at h
      split at h
      · exact t_X0_thoseBefore_h5 s ga_fuel _ _ _ _  S s1 _ h
      · cases h), fun _ h => nomatch h⟩)) (n := 600) h)
abbrev T_X0_lowest {α : Type} (P : ga_S) (s0 : ga_M) (K0 : ga_O → Option α) (cfg : ga_C) (r : α) : Prop := ga_T RX0 cX0_lowest (ga_lk cl_X0_lowest) gaGP gaCost (fun _ => []) gaCls 83 0 0 false true false none (fun S σ => S = P ∧ σ = s0) K0 cfg r
set_option maxRecDepth 100000 in
theorem t_X0_lowest_h2 (s0 : ga_M) : ∀ (n : Nat) (l1 : Int32) (l2 : Int32) (w0 : Option Value) (S : ga_S) (s : ga_M) (r : Int32), f_X0_lowest_h2 n l1 l2 s = some r → T_X0_lowest gaSH s0 gp_kI (2, [w0, some (.int l1), some (.int l2)], [], S, s, 0, 0) r := by
  intro n
  induction n with
  | zero => intro l1 l2 w0 S s r h; cases h
  | succ n ih => intro l1 l2 w0 S s r h; exact ga_T_S fun hS => (by
    obtain ⟨rfl, rfl⟩ := hS
    exact ga_T_go (sp := ga_sp [(2, 0, 0, fun L s => match L with
      | [_, some (.int l1), some (.int l2)] => f_X0_lowest_h2 n l1 l2 s
      | _ => none)]) (ga_sp_T (List.forall_mem_cons.mpr ⟨fun L S s1 h => (by
      dsimp only at h
      split at h
      · exact ih _ _ _ S s1 _ h
      · cases h), fun _ h => nomatch h⟩)) (n := 600) h)
set_option maxRecDepth 100000 in
theorem t_X0_lowest (a : Int32) (s : ga_M) (r : Int32) (h : f_X0_lowest a s = some r) : T_X0_lowest gaSH s gp_kI (0, [some (.ref 32), some (.int a), none], [], gaSH, s, 0, 0) r := (by
    rw [fe_X0_lowest] at h
    exact ga_T_go (sp := ga_sp [(2, 0, 0, fun L s => match L with
      | [_, some (.int l1), some (.int l2)] => f_X0_lowest_h2 ga_fuel l1 l2 s
      | _ => none)]) (ga_sp_T (List.forall_mem_cons.mpr ⟨fun L S s1 h => (by
      dsimp only at h
      split at h
      · exact t_X0_lowest_h2 s ga_fuel _ _ _ S s1 _ h
      · cases h), fun _ h => nomatch h⟩)) (n := 600) h)
abbrev T_X0_choose {α : Type} (P : ga_S) (K0 : ga_O → Option α) (cfg : ga_C) (r : α) : Prop := ga_T RX0 cX0_choose (ga_lk cl_X0_choose) gaG gaCost (fun _ => []) gaCls 83 0 0 false true true none (fun S _ => S = P) K0 cfg r
set_option maxRecDepth 100000 in
theorem t_X0_choose_h72 : ∀ (n : Nat) (l2 : Int32) (l3 : Int32) (w0 : Option Value) (w1 : Option Value) (S : ga_S) (s : ga_M) (r : ga_M), f_X0_choose_h72 n l2 l3 s = some r → T_X0_choose gaSH ga_kV (72, [some (.ref 32), w0, some (.int l2), some (.int l3), w1], [], S, s, 0, 0) r := by
  intro n
  induction n with
  | zero => intro l2 l3 w0 w1 S s r h; cases h
  | succ n ih => intro l2 l3 w0 w1 S s r h; exact ga_T_S fun hS => (by
    cases hS
    exact ga_T_go (sp := ga_sp [(72, 0, 0, fun L s => match L with
      | [some (.ref 32), _, some (.int l2), some (.int l3), _] => f_X0_choose_h72 n l2 l3 s
      | _ => none)]) (ga_sp_T (List.forall_mem_cons.mpr ⟨fun L S s1 h => (by
      dsimp only at h
      split at h
      · exact ih _ _ _ _ S s1 _ h
      · cases h), fun _ h => nomatch h⟩)) (n := 600) h)
set_option maxRecDepth 100000 in
theorem t_X0_choose_h21 : ∀ (n : Nat) (l2 : Int32) (w0 : Option Value) (w1 : Option Value) (w2 : Option Value) (S : ga_S) (s : ga_M) (r : ga_M), f_X0_choose_h21 n l2 s = some r → T_X0_choose gaSH ga_kV (21, [some (.ref 32), w0, some (.int l2), w1, w2], [], S, s, 0, 0) r := by
  intro n
  induction n with
  | zero => intro l2 w0 w1 w2 S s r h; cases h
  | succ n ih => intro l2 w0 w1 w2 S s r h; exact ga_T_S fun hS => (by
    cases hS
    exact ga_T_go (sp := ga_sp [(72, 0, 0, fun L s => match L with
      | [some (.ref 32), _, some (.int l2), some (.int l3), _] => f_X0_choose_h72 ga_fuel l2 l3 s
      | _ => none), (21, 0, 0, fun L s => match L with
      | [some (.ref 32), _, some (.int l2), _, _] => f_X0_choose_h21 n l2 s
      | _ => none)]) (ga_sp_T (List.forall_mem_cons.mpr ⟨fun L S s1 h => (by
      dsimp only at h
      split at h
      · exact t_X0_choose_h72 ga_fuel _ _ _ _ S s1 _ h
      · cases h), List.forall_mem_cons.mpr ⟨fun L S s1 h => (by
      dsimp only at h
      split at h
      · exact ih _ _ _ _ S s1 _ h
      · cases h), fun _ h => nomatch h⟩⟩)) (n := 600) h)
set_option maxRecDepth 100000 in
theorem t_X0_choose (a : Int32) (s : ga_M) (r : ga_M) (h : f_X0_choose a s = some r) : T_X0_choose gaSH ga_kV (0, [some (.ref 32), some (.int a), none, none, none], [], gaSH, s, 0, 0) r := (by
    rw [fe_X0_choose] at h
    exact ga_T_go (sp := ga_sp [(21, 0, 0, fun L s => match L with
      | [some (.ref 32), _, some (.int l2), _, _] => f_X0_choose_h21 ga_fuel l2 s
      | _ => none)]) (ga_sp_T (List.forall_mem_cons.mpr ⟨fun L S s1 h => (by
      dsimp only at h
      split at h
      · exact t_X0_choose_h21 ga_fuel _ _ _ _ S s1 _ h
      · cases h), fun _ h => nomatch h⟩)) (n := 600) h)
abbrev T_X0_find {α : Type} (P : ga_S) (K0 : ga_O → Option α) (cfg : ga_C) (r : α) : Prop := ga_T RX0 cX0_find (ga_lk cl_X0_find) gaG gaCost (fun _ => []) gaCls 83 0 0 false true true none (fun S _ => S = P) K0 cfg r
set_option maxRecDepth 100000 in
theorem t_X0_find_h73 : ∀ (n : Nat) (l4 : Int32) (l5 : Int32) (l6 : Int32) (w0 : Option Value) (w1 : Option Value) (w2 : Option Value) (w3 : Option Value) (S : ga_S) (s : ga_M) (r : Int32 × ga_M), f_X0_find_h73 n l4 l5 l6 s = some r → T_X0_find gaSH ga_kI (73, [some (.ref 32), w0, w1, w2, some (.int l4), some (.int l5), some (.int l6), w3], [], S, s, 0, 0) r := by
  intro n
  induction n with
  | zero => intro l4 l5 l6 w0 w1 w2 w3 S s r h; cases h
  | succ n ih => intro l4 l5 l6 w0 w1 w2 w3 S s r h; exact ga_T_S fun hS => (by
    cases hS
    exact ga_T_go (sp := ga_sp [(73, 0, 0, fun L s => match L with
      | [some (.ref 32), _, _, _, some (.int l4), some (.int l5), some (.int l6), _] => f_X0_find_h73 n l4 l5 l6 s
      | _ => none)]) (ga_sp_T (List.forall_mem_cons.mpr ⟨fun L S s1 h => (by
      dsimp only at h
      split at h
      · exact ih _ _ _ _ _ _ _ S s1 _ h
      · cases h), fun _ h => nomatch h⟩)) (n := 600) h)
set_option maxRecDepth 100000 in
theorem t_X0_find (a : Int32) (s : ga_M) (r : Int32 × ga_M) (h : f_X0_find a s = some r) : T_X0_find gaSH ga_kI (0, [some (.ref 32), some (.int a), none, none, none, none, none, none], [], gaSH, s, 0, 0) r := (by
    rw [fe_X0_find] at h
    exact ga_T_go (sp := ga_sp [(73, 0, 0, fun L s => match L with
      | [some (.ref 32), _, _, _, some (.int l4), some (.int l5), some (.int l6), _] => f_X0_find_h73 ga_fuel l4 l5 l6 s
      | _ => none)]) (ga_sp_T (List.forall_mem_cons.mpr ⟨fun L S s1 h => (by
      dsimp only at h
      split at h
      · exact t_X0_find_h73 ga_fuel _ _ _ _ _ _ _ S s1 _ h
      · cases h), fun _ h => nomatch h⟩)) (n := 600) h)
abbrev T_X3_lessonAt {α : Type} (P : ga_S) (s0 : ga_M) (K0 : ga_O → Option α) (cfg : ga_C) (r : α) : Prop := ga_T RX3 cX3_lessonAt (ga_lk cl_X3_lessonAt) gaGP gaCost (fun _ => []) gaCls 83 0 0 false true false none (fun S σ => S = P ∧ σ = s0) K0 cfg r
set_option maxRecDepth 100000 in
theorem t_X3_lessonAt_23_h3 (s0 : ga_M) : ∀ (n : Nat) (l1 : Int32) (l3 : Int32) (l4 : Int32) (S : ga_S) (s : ga_M) (r : Int32), f_X3_lessonAt_23_h3 n l1 l3 l4 s = some r → T_X3_lessonAt gaSH s0 gp_kI (3, [some (.ref 20), some (.int l1), some (.ref 23), some (.int l3), some (.int l4)], [], S, s, 0, 0) r := by
  intro n
  induction n with
  | zero => intro l1 l3 l4 S s r h; cases h
  | succ n ih => intro l1 l3 l4 S s r h; exact ga_T_S fun hS => (by
    obtain ⟨rfl, rfl⟩ := hS
    exact ga_T_go (sp := ga_sp [(3, 0, 0, fun L s => match L with
      | [some (.ref 20), some (.int l1), some (.ref 23), some (.int l3), some (.int l4)] => f_X3_lessonAt_23_h3 n l1 l3 l4 s
      | _ => none)]) (ga_sp_T (List.forall_mem_cons.mpr ⟨fun L S s1 h => (by
      dsimp only at h
      split at h
      · exact ih _ _ _  S s1 _ h
      · cases h), fun _ h => nomatch h⟩)) (n := 600) h)
set_option maxRecDepth 100000 in
theorem t_X3_lessonAt_23 (a : Int32) (b : Int32) (s : ga_M) (r : Int32) (h : f_X3_lessonAt_23 a b s = some r) : T_X3_lessonAt gaSH s gp_kI (0, [some (.ref 20), some (.int a), some (.ref 23), some (.int b), none], [], gaSH, s, 0, 0) r := (by
    rw [fe_X3_lessonAt_23] at h
    exact ga_T_go (sp := ga_sp [(3, 0, 0, fun L s => match L with
      | [some (.ref 20), some (.int l1), some (.ref 23), some (.int l3), some (.int l4)] => f_X3_lessonAt_23_h3 ga_fuel l1 l3 l4 s
      | _ => none)]) (ga_sp_T (List.forall_mem_cons.mpr ⟨fun L S s1 h => (by
      dsimp only at h
      split at h
      · exact t_X3_lessonAt_23_h3 s ga_fuel _ _ _  S s1 _ h
      · cases h), fun _ h => nomatch h⟩)) (n := 600) h)
abbrev T_X3_letTeach {α : Type} (P : ga_S) (K0 : ga_O → Option α) (cfg : ga_C) (r : α) : Prop := ga_T RX3 cX3_letTeach (ga_lk cl_X3_letTeach) gaG gaCost (fun _ => []) gaCls 83 0 0 false true true none (fun S _ => S = P) K0 cfg r
set_option maxRecDepth 100000 in
theorem t_X3_letTeach (a : Int32) (b : Int32) (s : ga_M) (r : ga_M) (h : f_X3_letTeach a b s = some r) : T_X3_letTeach gaSH ga_kV (0, [some (.ref 20), some (.int a), some (.int b)], [], gaSH, s, 0, 0) r := (by
    rw [fe_X3_letTeach] at h
    exact ga_T_go (sp := ga_sp []) (ga_sp_T (fun _ h => nomatch h)) (n := 600) h)
abbrev T_X2_repairByChain {α : Type} (P : ga_S) (K0 : ga_O → Option α) (cfg : ga_C) (r : α) : Prop := ga_T RX2 cX2_repairByChain (ga_lk cl_X2_repairByChain) gaG gaCost (fun _ => []) gaCls 83 0 0 false true true none (fun S _ => S = P) K0 cfg r
set_option maxRecDepth 100000 in
theorem t_X2_repairByChain_h27 : ∀ (n : Nat) (l2 : Int32) (l3 : Int32) (l4 : Int32) (l5 : Int32) (w0 : Option Value) (w1 : Option Value) (w2 : Option Value) (S : ga_S) (s : ga_M) (r : Int32 × ga_M), f_X2_repairByChain_h27 n l2 l3 l4 l5 s = some r → T_X2_repairByChain gaSH ga_kI (27, [some (.ref 41), w0, some (.int l2), some (.int l3), some (.int l4), some (.int l5), w1, w2], [], S, s, 0, 0) r := by
  intro n
  induction n with
  | zero => intro l2 l3 l4 l5 w0 w1 w2 S s r h; cases h
  | succ n ih => intro l2 l3 l4 l5 w0 w1 w2 S s r h; exact ga_T_S fun hS => (by
    cases hS
    exact ga_T_go (sp := ga_sp [(27, 0, 0, fun L s => match L with
      | [some (.ref 41), _, some (.int l2), some (.int l3), some (.int l4), some (.int l5), _, _] => f_X2_repairByChain_h27 n l2 l3 l4 l5 s
      | _ => none)]) (ga_sp_T (List.forall_mem_cons.mpr ⟨fun L S s1 h => (by
      dsimp only at h
      split at h
      · exact ih _ _ _ _ _ _ _ S s1 _ h
      · cases h), fun _ h => nomatch h⟩)) (n := 600) h)
set_option maxRecDepth 100000 in
theorem t_X2_repairByChain (a : Int32) (s : ga_M) (r : Int32 × ga_M) (h : f_X2_repairByChain a s = some r) : T_X2_repairByChain gaSH ga_kI (0, [some (.ref 41), some (.int a), none, none, none, none, none, none], [], gaSH, s, 0, 0) r := (by
    rw [fe_X2_repairByChain] at h
    exact ga_T_go (sp := ga_sp [(27, 0, 0, fun L s => match L with
      | [some (.ref 41), _, some (.int l2), some (.int l3), some (.int l4), some (.int l5), _, _] => f_X2_repairByChain_h27 ga_fuel l2 l3 l4 l5 s
      | _ => none)]) (ga_sp_T (List.forall_mem_cons.mpr ⟨fun L S s1 h => (by
      dsimp only at h
      split at h
      · exact t_X2_repairByChain_h27 ga_fuel _ _ _ _ _ _ _ S s1 _ h
      · cases h), fun _ h => nomatch h⟩)) (n := 600) h)
abbrev T_X7_hasRoom {α : Type} (P : ga_S) (s0 : ga_M) (K0 : ga_O → Option α) (cfg : ga_C) (r : α) : Prop := ga_T RX7 cX7_hasRoom (ga_lk cl_X7_hasRoom) gaGP gaCost (fun _ => []) gaCls 83 0 0 false true false none (fun S σ => S = P ∧ σ = s0) K0 cfg r
set_option maxRecDepth 100000 in
theorem t_X7_hasRoom (a : Int32) (s : ga_M) (r : Int32) (h : f_X7_hasRoom a s = some r) : T_X7_hasRoom gaSH s gp_kI (0, [some (.ref 1), some (.int a)], [], gaSH, s, 0, 0) r := (by
    rw [fe_X7_hasRoom] at h
    exact ga_T_go (sp := ga_sp []) (ga_sp_T (fun _ h => nomatch h)) (n := 600) h)
set_option maxRecDepth 100000 in
theorem t_X3_lessonAt_25_h3 (s0 : ga_M) : ∀ (n : Nat) (l1 : Int32) (l3 : Int32) (l4 : Int32) (S : ga_S) (s : ga_M) (r : Int32), f_X3_lessonAt_25_h3 n l1 l3 l4 s = some r → T_X3_lessonAt gaSH s0 gp_kI (3, [some (.ref 20), some (.int l1), some (.ref 25), some (.int l3), some (.int l4)], [], S, s, 0, 0) r := by
  intro n
  induction n with
  | zero => intro l1 l3 l4 S s r h; cases h
  | succ n ih => intro l1 l3 l4 S s r h; exact ga_T_S fun hS => (by
    obtain ⟨rfl, rfl⟩ := hS
    exact ga_T_go (sp := ga_sp [(3, 0, 0, fun L s => match L with
      | [some (.ref 20), some (.int l1), some (.ref 25), some (.int l3), some (.int l4)] => f_X3_lessonAt_25_h3 n l1 l3 l4 s
      | _ => none)]) (ga_sp_T (List.forall_mem_cons.mpr ⟨fun L S s1 h => (by
      dsimp only at h
      split at h
      · exact ih _ _ _  S s1 _ h
      · cases h), fun _ h => nomatch h⟩)) (n := 600) h)
set_option maxRecDepth 100000 in
theorem t_X3_lessonAt_25 (a : Int32) (b : Int32) (s : ga_M) (r : Int32) (h : f_X3_lessonAt_25 a b s = some r) : T_X3_lessonAt gaSH s gp_kI (0, [some (.ref 20), some (.int a), some (.ref 25), some (.int b), none], [], gaSH, s, 0, 0) r := (by
    rw [fe_X3_lessonAt_25] at h
    exact ga_T_go (sp := ga_sp [(3, 0, 0, fun L s => match L with
      | [some (.ref 20), some (.int l1), some (.ref 25), some (.int l3), some (.int l4)] => f_X3_lessonAt_25_h3 ga_fuel l1 l3 l4 s
      | _ => none)]) (ga_sp_T (List.forall_mem_cons.mpr ⟨fun L S s1 h => (by
      dsimp only at h
      split at h
      · exact t_X3_lessonAt_25_h3 s ga_fuel _ _ _  S s1 _ h
      · cases h), fun _ h => nomatch h⟩)) (n := 600) h)
abbrev T_X4_againstRoom {α : Type} (P : ga_S) (s0 : ga_M) (K0 : ga_O → Option α) (cfg : ga_C) (r : α) : Prop := ga_T RX4 cX4_againstRoom (ga_lk cl_X4_againstRoom) gaGP gaCost (fun _ => []) gaCls 83 0 0 false true false none (fun S σ => S = P ∧ σ = s0) K0 cfg r
set_option maxRecDepth 100000 in
theorem t_X4_againstRoom (a : Int32) (b : Int32) (s : ga_M) (r : Int32) (h : f_X4_againstRoom a b s = some r) : T_X4_againstRoom gaSH s gp_kI (0, [some (.ref 31), some (.int a), some (.int b)], [], gaSH, s, 0, 0) r := (by
    rw [fe_X4_againstRoom] at h
    exact ga_T_go (sp := ga_sp []) (ga_sp_T (fun _ h => nomatch h)) (n := 600) h)
abbrev T_X2_moveToRoom {α : Type} (P : ga_S) (K0 : ga_O → Option α) (cfg : ga_C) (r : α) : Prop := ga_T RX2 cX2_moveToRoom (ga_lk cl_X2_moveToRoom) gaG gaCost (fun _ => []) gaCls 83 0 0 false true true none (fun S _ => S = P) K0 cfg r
set_option maxRecDepth 100000 in
theorem t_X2_moveToRoom (a : Int32) (b : Int32) (s : ga_M) (r : Int32 × ga_M) (h : f_X2_moveToRoom a b s = some r) : T_X2_moveToRoom gaSH ga_kI (0, [some (.ref 41), some (.int a), some (.int b)], [], gaSH, s, 0, 0) r := (by
    rw [fe_X2_moveToRoom] at h
    exact ga_T_go (sp := ga_sp []) (ga_sp_T (fun _ h => nomatch h)) (n := 600) h)
set_option maxRecDepth 100000 in
theorem t_X7_slots (s : ga_M) (r : Int32) (h : f_X7_slots s = some r) : T_X7_slots gaSH s gp_kI (0, [some (.ref 1)], [], gaSH, s, 0, 0) r := (by
    rw [fe_X7_slots] at h
    exact ga_T_go (sp := ga_sp []) (ga_sp_T (fun _ h => nomatch h)) (n := 600) h)
abbrev T_X7_hasSlot {α : Type} (P : ga_S) (s0 : ga_M) (K0 : ga_O → Option α) (cfg : ga_C) (r : α) : Prop := ga_T RX7 cX7_hasSlot (ga_lk cl_X7_hasSlot) gaGP gaCost (fun _ => []) gaCls 83 0 0 false true false none (fun S σ => S = P ∧ σ = s0) K0 cfg r
set_option maxRecDepth 100000 in
theorem t_X7_hasSlot (a : Int32) (s : ga_M) (r : Int32) (h : f_X7_hasSlot a s = some r) : T_X7_hasSlot gaSH s gp_kI (0, [some (.ref 1), some (.int a)], [], gaSH, s, 0, 0) r := (by
    rw [fe_X7_hasSlot] at h
    exact ga_T_go (sp := ga_sp []) (ga_sp_T (fun _ h => nomatch h)) (n := 600) h)
set_option maxRecDepth 100000 in
theorem t_X3_lessonAt_10_h3 (s0 : ga_M) : ∀ (n : Nat) (l1 : Int32) (l3 : Int32) (l4 : Int32) (S : ga_S) (s : ga_M) (r : Int32), f_X3_lessonAt_10_h3 n l1 l3 l4 s = some r → T_X3_lessonAt gaSH s0 gp_kI (3, [some (.ref 20), some (.int l1), some (.ref 10), some (.int l3), some (.int l4)], [], S, s, 0, 0) r := by
  intro n
  induction n with
  | zero => intro l1 l3 l4 S s r h; cases h
  | succ n ih => intro l1 l3 l4 S s r h; exact ga_T_S fun hS => (by
    obtain ⟨rfl, rfl⟩ := hS
    exact ga_T_go (sp := ga_sp [(3, 0, 0, fun L s => match L with
      | [some (.ref 20), some (.int l1), some (.ref 10), some (.int l3), some (.int l4)] => f_X3_lessonAt_10_h3 n l1 l3 l4 s
      | _ => none)]) (ga_sp_T (List.forall_mem_cons.mpr ⟨fun L S s1 h => (by
      dsimp only at h
      split at h
      · exact ih _ _ _  S s1 _ h
      · cases h), fun _ h => nomatch h⟩)) (n := 600) h)
set_option maxRecDepth 100000 in
theorem t_X3_lessonAt_10 (a : Int32) (b : Int32) (s : ga_M) (r : Int32) (h : f_X3_lessonAt_10 a b s = some r) : T_X3_lessonAt gaSH s gp_kI (0, [some (.ref 20), some (.int a), some (.ref 10), some (.int b), none], [], gaSH, s, 0, 0) r := (by
    rw [fe_X3_lessonAt_10] at h
    exact ga_T_go (sp := ga_sp [(3, 0, 0, fun L s => match L with
      | [some (.ref 20), some (.int l1), some (.ref 10), some (.int l3), some (.int l4)] => f_X3_lessonAt_10_h3 ga_fuel l1 l3 l4 s
      | _ => none)]) (ga_sp_T (List.forall_mem_cons.mpr ⟨fun L S s1 h => (by
      dsimp only at h
      split at h
      · exact t_X3_lessonAt_10_h3 s ga_fuel _ _ _  S s1 _ h
      · cases h), fun _ h => nomatch h⟩)) (n := 600) h)
abbrev T_X4_isBusy {α : Type} (P : ga_S) (s0 : ga_M) (K0 : ga_O → Option α) (cfg : ga_C) (r : α) : Prop := ga_T RX4 cX4_isBusy (ga_lk cl_X4_isBusy) gaGP gaCost (fun _ => []) gaCls 83 0 0 false true false none (fun S σ => S = P ∧ σ = s0) K0 cfg r
set_option maxRecDepth 100000 in
theorem t_X4_isBusy (a : Int32) (b : Int32) (s : ga_M) (r : Int32) (h : f_X4_isBusy a b s = some r) : T_X4_isBusy gaSH s gp_kI (0, [some (.ref 31), some (.int a), some (.int b)], [], gaSH, s, 0, 0) r := (by
    rw [fe_X4_isBusy] at h
    exact ga_T_go (sp := ga_sp []) (ga_sp_T (fun _ h => nomatch h)) (n := 600) h)
abbrev T_X4_isTeacherAwayAt {α : Type} (P : ga_S) (s0 : ga_M) (K0 : ga_O → Option α) (cfg : ga_C) (r : α) : Prop := ga_T RX4 cX4_isTeacherAwayAt (ga_lk cl_X4_isTeacherAwayAt) gaGP gaCost (fun _ => []) gaCls 83 0 0 false true false none (fun S σ => S = P ∧ σ = s0) K0 cfg r
set_option maxRecDepth 100000 in
theorem t_X4_isTeacherAwayAt (a : Int32) (b : Int32) (s : ga_M) (r : Int32) (h : f_X4_isTeacherAwayAt a b s = some r) : T_X4_isTeacherAwayAt gaSH s gp_kI (0, [some (.ref 31), some (.int a), some (.int b)], [], gaSH, s, 0, 0) r := (by
    rw [fe_X4_isTeacherAwayAt] at h
    exact ga_T_go (sp := ga_sp []) (ga_sp_T (fun _ h => nomatch h)) (n := 600) h)
abbrev T_X4_againstMove {α : Type} (P : ga_S) (s0 : ga_M) (K0 : ga_O → Option α) (cfg : ga_C) (r : α) : Prop := ga_T RX4 cX4_againstMove (ga_lk cl_X4_againstMove) gaGP gaCost (fun _ => []) gaCls 83 0 0 false true false none (fun S σ => S = P ∧ σ = s0) K0 cfg r
set_option maxRecDepth 100000 in
theorem t_X4_againstMove (a : Int32) (b : Int32) (s : ga_M) (r : Int32) (h : f_X4_againstMove a b s = some r) : T_X4_againstMove gaSH s gp_kI (0, [some (.ref 31), some (.int a), some (.int b)], [], gaSH, s, 0, 0) r := (by
    rw [fe_X4_againstMove] at h
    exact ga_T_go (sp := ga_sp []) (ga_sp_T (fun _ h => nomatch h)) (n := 600) h)
abbrev T_X2_moveToSlot {α : Type} (P : ga_S) (K0 : ga_O → Option α) (cfg : ga_C) (r : α) : Prop := ga_T RX2 cX2_moveToSlot (ga_lk cl_X2_moveToSlot) gaG gaCost (fun _ => []) gaCls 83 0 0 false true true none (fun S _ => S = P) K0 cfg r
set_option maxRecDepth 100000 in
theorem t_X2_moveToSlot (a : Int32) (b : Int32) (s : ga_M) (r : Int32 × ga_M) (h : f_X2_moveToSlot a b s = some r) : T_X2_moveToSlot gaSH ga_kI (0, [some (.ref 41), some (.int a), some (.int b)], [], gaSH, s, 0, 0) r := (by
    rw [fe_X2_moveToSlot] at h
    exact ga_T_go (sp := ga_sp []) (ga_sp_T (fun _ h => nomatch h)) (n := 600) h)
abbrev T_X4_isHeldByThird {α : Type} (P : ga_S) (s0 : ga_M) (K0 : ga_O → Option α) (cfg : ga_C) (r : α) : Prop := ga_T RX4 cX4_isHeldByThird (ga_lk cl_X4_isHeldByThird) gaGP gaCost (fun _ => []) gaCls 83 0 0 false true false none (fun S σ => S = P ∧ σ = s0) K0 cfg r
set_option maxRecDepth 100000 in
theorem t_X4_isHeldByThird_23 (a : Int32) (b : Int32) (s : ga_M) (r : Int32) (h : f_X4_isHeldByThird_23 a b s = some r) : T_X4_isHeldByThird gaSH s gp_kI (0, [some (.ref 31), some (.ref 23), some (.int a), some (.int b), none], [], gaSH, s, 0, 0) r := (by
    rw [fe_X4_isHeldByThird_23] at h
    exact ga_T_go (sp := ga_sp []) (ga_sp_T (fun _ h => nomatch h)) (n := 600) h)
set_option maxRecDepth 100000 in
theorem t_X4_isHeldByThird_25 (a : Int32) (b : Int32) (s : ga_M) (r : Int32) (h : f_X4_isHeldByThird_25 a b s = some r) : T_X4_isHeldByThird gaSH s gp_kI (0, [some (.ref 31), some (.ref 25), some (.int a), some (.int b), none], [], gaSH, s, 0, 0) r := (by
    rw [fe_X4_isHeldByThird_25] at h
    exact ga_T_go (sp := ga_sp []) (ga_sp_T (fun _ h => nomatch h)) (n := 600) h)
abbrev T_X4_againstExchange {α : Type} (P : ga_S) (s0 : ga_M) (K0 : ga_O → Option α) (cfg : ga_C) (r : α) : Prop := ga_T RX4 cX4_againstExchange (ga_lk cl_X4_againstExchange) gaGP gaCost (fun _ => []) gaCls 83 0 0 false true false none (fun S σ => S = P ∧ σ = s0) K0 cfg r
set_option maxRecDepth 100000 in
theorem t_X4_againstExchange (a : Int32) (b : Int32) (s : ga_M) (r : Int32) (h : f_X4_againstExchange a b s = some r) : T_X4_againstExchange gaSH s gp_kI (0, [some (.ref 31), some (.int a), some (.int b)], [], gaSH, s, 0, 0) r := (by
    rw [fe_X4_againstExchange] at h
    exact ga_T_go (sp := ga_sp []) (ga_sp_T (fun _ h => nomatch h)) (n := 600) h)
abbrev T_X2_swapSlots {α : Type} (P : ga_S) (K0 : ga_O → Option α) (cfg : ga_C) (r : α) : Prop := ga_T RX2 cX2_swapSlots (ga_lk cl_X2_swapSlots) gaG gaCost (fun _ => []) gaCls 83 0 0 false true true none (fun S _ => S = P) K0 cfg r
set_option maxRecDepth 100000 in
theorem t_X2_swapSlots (a : Int32) (b : Int32) (s : ga_M) (r : Int32 × ga_M) (h : f_X2_swapSlots a b s = some r) : T_X2_swapSlots gaSH ga_kI (0, [some (.ref 41), some (.int a), some (.int b), none], [], gaSH, s, 0, 0) r := (by
    rw [fe_X2_swapSlots] at h
    exact ga_T_go (sp := ga_sp []) (ga_sp_T (fun _ h => nomatch h)) (n := 600) h)
abbrev T_X3_isSupervised {α : Type} (P : ga_S) (s0 : ga_M) (K0 : ga_O → Option α) (cfg : ga_C) (r : α) : Prop := ga_T RX3 cX3_isSupervised (ga_lk cl_X3_isSupervised) gaGP gaCost (fun _ => []) gaCls 83 0 0 false true false none (fun S σ => S = P ∧ σ = s0) K0 cfg r
set_option maxRecDepth 100000 in
theorem t_X3_isSupervised (a : Int32) (s : ga_M) (r : Int32) (h : f_X3_isSupervised a s = some r) : T_X3_isSupervised gaSH s gp_kI (0, [some (.ref 20), some (.int a)], [], gaSH, s, 0, 0) r := (by
    rw [fe_X3_isSupervised] at h
    exact ga_T_go (sp := ga_sp []) (ga_sp_T (fun _ h => nomatch h)) (n := 600) h)
abbrev T_X3_dutiesOn {α : Type} (P : ga_S) (s0 : ga_M) (K0 : ga_O → Option α) (cfg : ga_C) (r : α) : Prop := ga_T RX3 cX3_dutiesOn (ga_lk cl_X3_dutiesOn) gaGP gaCost (fun _ => []) gaCls 83 0 0 false true false none (fun S σ => S = P ∧ σ = s0) K0 cfg r
set_option maxRecDepth 100000 in
theorem t_X3_dutiesOn_h5 (s0 : ga_M) : ∀ (n : Nat) (l1 : Int32) (l2 : Int32) (l3 : Int32) (l4 : Int32) (S : ga_S) (s : ga_M) (r : Int32), f_X3_dutiesOn_h5 n l1 l2 l3 l4 s = some r → T_X3_dutiesOn gaSH s0 gp_kI (5, [some (.ref 20), some (.int l1), some (.int l2), some (.int l3), some (.int l4)], [], S, s, 0, 0) r := by
  intro n
  induction n with
  | zero => intro l1 l2 l3 l4 S s r h; cases h
  | succ n ih => intro l1 l2 l3 l4 S s r h; exact ga_T_S fun hS => (by
    obtain ⟨rfl, rfl⟩ := hS
    exact ga_T_go (sp := ga_sp [(5, 0, 0, fun L s => match L with
      | [some (.ref 20), some (.int l1), some (.int l2), some (.int l3), some (.int l4)] => f_X3_dutiesOn_h5 n l1 l2 l3 l4 s
      | _ => none)]) (ga_sp_T (List.forall_mem_cons.mpr ⟨fun L S s1 h => (by
      dsimp only at h
      split at h
      · exact ih _ _ _ _  S s1 _ h
      · cases h), fun _ h => nomatch h⟩)) (n := 600) h)
set_option maxRecDepth 100000 in
theorem t_X3_dutiesOn (a : Int32) (b : Int32) (s : ga_M) (r : Int32) (h : f_X3_dutiesOn a b s = some r) : T_X3_dutiesOn gaSH s gp_kI (0, [some (.ref 20), some (.int a), some (.int b), none, none], [], gaSH, s, 0, 0) r := (by
    rw [fe_X3_dutiesOn] at h
    exact ga_T_go (sp := ga_sp [(5, 0, 0, fun L s => match L with
      | [some (.ref 20), some (.int l1), some (.int l2), some (.int l3), some (.int l4)] => f_X3_dutiesOn_h5 ga_fuel l1 l2 l3 l4 s
      | _ => none)]) (ga_sp_T (List.forall_mem_cons.mpr ⟨fun L S s1 h => (by
      dsimp only at h
      split at h
      · exact t_X3_dutiesOn_h5 s ga_fuel _ _ _ _  S s1 _ h
      · cases h), fun _ h => nomatch h⟩)) (n := 600) h)
abbrev T_X4_againstSupervision {α : Type} (P : ga_S) (s0 : ga_M) (K0 : ga_O → Option α) (cfg : ga_C) (r : α) : Prop := ga_T RX4 cX4_againstSupervision (ga_lk cl_X4_againstSupervision) gaGP gaCost (fun _ => []) gaCls 83 0 0 false true false none (fun S σ => S = P ∧ σ = s0) K0 cfg r
set_option maxRecDepth 100000 in
theorem t_X4_againstSupervision (a : Int32) (b : Int32) (s : ga_M) (r : Int32) (h : f_X4_againstSupervision a b s = some r) : T_X4_againstSupervision gaSH s gp_kI (0, [some (.ref 31), some (.int a), some (.int b), none], [], gaSH, s, 0, 0) r := (by
    rw [fe_X4_againstSupervision] at h
    exact ga_T_go (sp := ga_sp []) (ga_sp_T (fun _ h => nomatch h)) (n := 600) h)
abbrev T_X3_letWatch {α : Type} (P : ga_S) (K0 : ga_O → Option α) (cfg : ga_C) (r : α) : Prop := ga_T RX3 cX3_letWatch (ga_lk cl_X3_letWatch) gaG gaCost (fun _ => []) gaCls 83 0 0 false true true none (fun S _ => S = P) K0 cfg r
set_option maxRecDepth 100000 in
theorem t_X3_letWatch (a : Int32) (b : Int32) (s : ga_M) (r : ga_M) (h : f_X3_letWatch a b s = some r) : T_X3_letWatch gaSH ga_kV (0, [some (.ref 20), some (.int a), some (.int b)], [], gaSH, s, 0, 0) r := (by
    rw [fe_X3_letWatch] at h
    exact ga_T_go (sp := ga_sp []) (ga_sp_T (fun _ h => nomatch h)) (n := 600) h)
abbrev T_X2_letSupervise {α : Type} (P : ga_S) (K0 : ga_O → Option α) (cfg : ga_C) (r : α) : Prop := ga_T RX2 cX2_letSupervise (ga_lk cl_X2_letSupervise) gaG gaCost (fun _ => []) gaCls 83 0 0 false true true none (fun S _ => S = P) K0 cfg r
set_option maxRecDepth 100000 in
theorem t_X2_letSupervise (a : Int32) (b : Int32) (s : ga_M) (r : Int32 × ga_M) (h : f_X2_letSupervise a b s = some r) : T_X2_letSupervise gaSH ga_kI (0, [some (.ref 41), some (.int a), some (.int b)], [], gaSH, s, 0, 0) r := (by
    rw [fe_X2_letSupervise] at h
    exact ga_T_go (sp := ga_sp []) (ga_sp_T (fun _ h => nomatch h)) (n := 600) h)
set_option maxRecDepth 100000 in
theorem t_X7_isQualified (a : Int32) (b : Int32) (s : ga_M) (r : Int32) (h : f_X7_isQualified a b s = some r) : T_X7_isQualified gaSH s gp_kI (0, [some (.ref 1), some (.int a), some (.int b)], [], gaSH, s, 0, 0) r := (by
    rw [fe_X7_isQualified] at h
    exact ga_T_go (sp := ga_sp []) (ga_sp_T (fun _ h => nomatch h)) (n := 600) h)
abbrev T_X4_againstCover {α : Type} (P : ga_S) (s0 : ga_M) (K0 : ga_O → Option α) (cfg : ga_C) (r : α) : Prop := ga_T RX4 cX4_againstCover (ga_lk cl_X4_againstCover) gaGP gaCost (fun _ => []) gaCls 83 0 0 false true false none (fun S σ => S = P ∧ σ = s0) K0 cfg r
set_option maxRecDepth 100000 in
theorem t_X4_againstCover (a : Int32) (b : Int32) (s : ga_M) (r : Int32) (h : f_X4_againstCover a b s = some r) : T_X4_againstCover gaSH s gp_kI (0, [some (.ref 31), some (.int a), some (.int b), none], [], gaSH, s, 0, 0) r := (by
    rw [fe_X4_againstCover] at h
    exact ga_T_go (sp := ga_sp []) (ga_sp_T (fun _ h => nomatch h)) (n := 600) h)
abbrev T_X2_letCover {α : Type} (P : ga_S) (K0 : ga_O → Option α) (cfg : ga_C) (r : α) : Prop := ga_T RX2 cX2_letCover (ga_lk cl_X2_letCover) gaG gaCost (fun _ => []) gaCls 83 0 0 false true true none (fun S _ => S = P) K0 cfg r
set_option maxRecDepth 100000 in
theorem t_X2_letCover (a : Int32) (b : Int32) (s : ga_M) (r : Int32 × ga_M) (h : f_X2_letCover a b s = some r) : T_X2_letCover gaSH ga_kI (0, [some (.ref 41), some (.int a), some (.int b)], [], gaSH, s, 0, 0) r := (by
    rw [fe_X2_letCover] at h
    exact ga_T_go (sp := ga_sp []) (ga_sp_T (fun _ h => nomatch h)) (n := 600) h)
abbrev T_X2_repairOpenLessons {α : Type} (P : ga_S) (K0 : ga_O → Option α) (cfg : ga_C) (r : α) : Prop := ga_T RX2 cX2_repairOpenLessons (ga_lk cl_X2_repairOpenLessons) gaG gaCost (fun _ => []) gaCls 83 0 0 false true true none (fun S _ => S = P) K0 cfg r
set_option maxRecDepth 100000 in
theorem t_X2_repairOpenLessons_h4 : ∀ (n : Nat) (l1 : Int32) (l2 : Int32) (S : ga_S) (s : ga_M) (r : Int32 × ga_M), f_X2_repairOpenLessons_h4 n l1 l2 s = some r → T_X2_repairOpenLessons gaSH ga_kI (4, [some (.ref 41), some (.int l1), some (.int l2)], [], S, s, 0, 0) r := by
  intro n
  induction n with
  | zero => intro l1 l2 S s r h; cases h
  | succ n ih => intro l1 l2 S s r h; exact ga_T_S fun hS => (by
    cases hS
    exact ga_T_go (sp := ga_sp [(4, 0, 0, fun L s => match L with
      | [some (.ref 41), some (.int l1), some (.int l2)] => f_X2_repairOpenLessons_h4 n l1 l2 s
      | _ => none)]) (ga_sp_T (List.forall_mem_cons.mpr ⟨fun L S s1 h => (by
      dsimp only at h
      split at h
      · exact ih _ _  S s1 _ h
      · cases h), fun _ h => nomatch h⟩)) (n := 600) h)
set_option maxRecDepth 100000 in
theorem t_X2_repairOpenLessons (s : ga_M) (r : Int32 × ga_M) (h : f_X2_repairOpenLessons s = some r) : T_X2_repairOpenLessons gaSH ga_kI (0, [some (.ref 41), none, none], [], gaSH, s, 0, 0) r := (by
    rw [fe_X2_repairOpenLessons] at h
    exact ga_T_go (sp := ga_sp [(4, 0, 0, fun L s => match L with
      | [some (.ref 41), some (.int l1), some (.int l2)] => f_X2_repairOpenLessons_h4 ga_fuel l1 l2 s
      | _ => none)]) (ga_sp_T (List.forall_mem_cons.mpr ⟨fun L S s1 h => (by
      dsimp only at h
      split at h
      · exact t_X2_repairOpenLessons_h4 ga_fuel _ _  S s1 _ h
      · cases h), fun _ h => nomatch h⟩)) (n := 600) h)
abbrev T_X2_perform {α : Type} (P : ga_S) (K0 : ga_O → Option α) (cfg : ga_C) (r : α) : Prop := ga_T RX2 cX2_perform (ga_lk cl_X2_perform) gaG gaCost (fun _ => []) gaCls 83 0 0 false true true none (fun S _ => S = P) K0 cfg r
set_option maxRecDepth 100000 in
theorem t_X2_perform (a : Int32) (b : Int32) (c : Int32) (s : ga_M) (r : Int32 × ga_M) (h : f_X2_perform a b c s = some r) : T_X2_perform gaSH ga_kI (0, [some (.ref 41), some (.int a), some (.int b), some (.int c)], [], gaSH, s, 0, 0) r := (by
    rw [fe_X2_perform] at h
    exact ga_T_go (sp := ga_sp []) (ga_sp_T (fun _ h => nomatch h)) (n := 600) h)
abbrev T_X11_runScript {α : Type} (P : ga_S) (K0 : ga_O → Option α) (cfg : ga_C) (r : α) : Prop := ga_T RX11 cX11_runScript (ga_lk cl_X11_runScript) gaG gaCost (fun _ => []) gaCls 83 0 0 false true true none (fun S _ => S = P) K0 cfg r
set_option maxRecDepth 100000 in
theorem t_X11_runScript_h20 : ∀ (n : Nat) (l1 : Int32) (l2 : Int32) (l3 : Int32) (S : ga_S) (s : ga_M) (r : Int32 × ga_M), f_X11_runScript_h20 n l1 l2 l3 s = some r → T_X11_runScript gaSH ga_kI (20, [some (.ref 0), some (.int l1), some (.int l2), some (.int l3)], [], S, s, 0, 0) r := by
  intro n
  induction n with
  | zero => intro l1 l2 l3 S s r h; cases h
  | succ n ih => intro l1 l2 l3 S s r h; exact ga_T_S fun hS => (by
    cases hS
    exact ga_T_go (sp := ga_sp [(20, 0, 0, fun L s => match L with
      | [some (.ref 0), some (.int l1), some (.int l2), some (.int l3)] => f_X11_runScript_h20 n l1 l2 l3 s
      | _ => none)]) (ga_sp_T (List.forall_mem_cons.mpr ⟨fun L S s1 h => (by
      dsimp only at h
      split at h
      · exact ih _ _ _  S s1 _ h
      · cases h), fun _ h => nomatch h⟩)) (n := 600) h)
set_option maxRecDepth 100000 in
theorem t_X11_runScript (s : ga_M) (r : Int32 × ga_M) (h : f_X11_runScript s = some r) : T_X11_runScript gaSH ga_kI (0, [some (.ref 0), none, none, none], [], gaSH, s, 0, 0) r := (by
    rw [fe_X11_runScript] at h
    exact ga_T_go (sp := ga_sp [(20, 0, 0, fun L s => match L with
      | [some (.ref 0), some (.int l1), some (.int l2), some (.int l3)] => f_X11_runScript_h20 ga_fuel l1 l2 l3 s
      | _ => none)]) (ga_sp_T (List.forall_mem_cons.mpr ⟨fun L S s1 h => (by
      dsimp only at h
      split at h
      · exact t_X11_runScript_h20 ga_fuel _ _ _  S s1 _ h
      · cases h), fun _ h => nomatch h⟩)) (n := 600) h)
