abbrev T_X0_leastLoaded {α : Type} (P : ga_S) (s0 : ga_M) (K0 : ga_O → Option α) (cfg : ga_C) (r : α) : Prop := ga_T RX0 cX0_leastLoaded (ga_lk cl_X0_leastLoaded) gaGP gaCost (fun _ => []) gaCls 84 0 0 false true false none (fun S σ => S = P ∧ σ = s0) K0 cfg r
set_option maxRecDepth 100000 in
theorem t_X0_leastLoaded_h7 (s0 : ga_M) : ∀ (n : Nat) (l1 : Int32) (l2 : Int32) (l3 : Int32) (l4 : Int32) (w0 : Option Value) (S : ga_S) (s : ga_M) (r : Int32), f_X0_leastLoaded_h7 n l1 l2 l3 l4 s = some r → T_X0_leastLoaded gaSH s0 gp_kI (7, [some (.ref 32), some (.int l1), some (.int l2), some (.int l3), some (.int l4), w0], [], S, s, 0, 0) r := by
  intro n
  induction n with
  | zero => intro l1 l2 l3 l4 w0 S s r h; cases h
  | succ n ih => intro l1 l2 l3 l4 w0 S s r h; exact ga_T_S fun hS => (by
    obtain ⟨rfl, rfl⟩ := hS
    exact ga_T_go (sp := ga_sp [(7, 0, 0, fun L s => match L with
      | [some (.ref 32), some (.int l1), some (.int l2), some (.int l3), some (.int l4), _] => f_X0_leastLoaded_h7 n l1 l2 l3 l4 s
      | _ => none)]) (ga_sp_T (List.forall_mem_cons.mpr ⟨fun L S s1 h => (by
      dsimp only at h
      split at h
      · exact ih _ _ _ _ _ S s1 _ h
      · cases h), fun _ h => nomatch h⟩)) (n := 600) h)
set_option maxRecDepth 100000 in
theorem t_X0_leastLoaded (a : Int32) (s : ga_M) (r : Int32) (h : f_X0_leastLoaded a s = some r) : T_X0_leastLoaded gaSH s gp_kI (0, [some (.ref 32), some (.int a), none, none, none, none], [], gaSH, s, 0, 0) r := (by
    rw [fe_X0_leastLoaded] at h
    exact ga_T_go (sp := ga_sp [(7, 0, 0, fun L s => match L with
      | [some (.ref 32), some (.int l1), some (.int l2), some (.int l3), some (.int l4), _] => f_X0_leastLoaded_h7 ga_fuel l1 l2 l3 l4 s
      | _ => none)]) (ga_sp_T (List.forall_mem_cons.mpr ⟨fun L S s1 h => (by
      dsimp only at h
      split at h
      · exact t_X0_leastLoaded_h7 s ga_fuel _ _ _ _ _ S s1 _ h
      · cases h), fun _ h => nomatch h⟩)) (n := 600) h)
abbrev T_X0_successorsOf {α : Type} (P : ga_S) (s0 : ga_M) (K0 : ga_O → Option α) (cfg : ga_C) (r : α) : Prop := ga_T RX0 cX0_successorsOf (ga_lk cl_X0_successorsOf) gaGP gaCost (fun _ => []) gaCls 84 0 0 false true false none (fun S σ => S = P ∧ σ = s0) K0 cfg r
set_option maxRecDepth 100000 in
theorem t_X0_successorsOf_h4 (s0 : ga_M) : ∀ (n : Nat) (l1 : Int32) (l2 : Int32) (l3 : Int32) (S : ga_S) (s : ga_M) (r : Int32), f_X0_successorsOf_h4 n l1 l2 l3 s = some r → T_X0_successorsOf gaSH s0 gp_kI (4, [some (.ref 32), some (.int l1), some (.int l2), some (.int l3)], [], S, s, 0, 0) r := by
  intro n
  induction n with
  | zero => intro l1 l2 l3 S s r h; cases h
  | succ n ih => intro l1 l2 l3 S s r h; exact ga_T_S fun hS => (by
    obtain ⟨rfl, rfl⟩ := hS
    exact ga_T_go (sp := ga_sp [(4, 0, 0, fun L s => match L with
      | [some (.ref 32), some (.int l1), some (.int l2), some (.int l3)] => f_X0_successorsOf_h4 n l1 l2 l3 s
      | _ => none)]) (ga_sp_T (List.forall_mem_cons.mpr ⟨fun L S s1 h => (by
      dsimp only at h
      split at h
      · exact ih _ _ _  S s1 _ h
      · cases h), fun _ h => nomatch h⟩)) (n := 600) h)
set_option maxRecDepth 100000 in
theorem t_X0_successorsOf (a : Int32) (s : ga_M) (r : Int32) (h : f_X0_successorsOf a s = some r) : T_X0_successorsOf gaSH s gp_kI (0, [some (.ref 32), some (.int a), none, none], [], gaSH, s, 0, 0) r := (by
    rw [fe_X0_successorsOf] at h
    exact ga_T_go (sp := ga_sp [(4, 0, 0, fun L s => match L with
      | [some (.ref 32), some (.int l1), some (.int l2), some (.int l3)] => f_X0_successorsOf_h4 ga_fuel l1 l2 l3 s
      | _ => none)]) (ga_sp_T (List.forall_mem_cons.mpr ⟨fun L S s1 h => (by
      dsimp only at h
      split at h
      · exact t_X0_successorsOf_h4 s ga_fuel _ _ _  S s1 _ h
      · cases h), fun _ h => nomatch h⟩)) (n := 600) h)
abbrev T_X0_thoseBefore {α : Type} (P : ga_S) (s0 : ga_M) (K0 : ga_O → Option α) (cfg : ga_C) (r : α) : Prop := ga_T RX0 cX0_thoseBefore (ga_lk cl_X0_thoseBefore) gaGP gaCost (fun _ => []) gaCls 84 0 0 false true false none (fun S σ => S = P ∧ σ = s0) K0 cfg r
set_option maxRecDepth 100000 in
theorem t_X0_thoseBefore_h5 (s0 : ga_M) : ∀ (n : Nat) (l1 : Int32) (l2 : Int32) (l3 : Int32) (l4 : Int32) (S : ga_S) (s : ga_M) (r : Int32), f_X0_thoseBefore_h5 n l1 l2 l3 l4 s = some r → T_X0_thoseBefore gaSH s0 gp_kI (5, [some (.ref 32), some (.int l1), some (.int l2), some (.int l3), some (.int l4)], [], S, s, 0, 0) r := by
  intro n
  induction n with
  | zero => intro l1 l2 l3 l4 S s r h; cases h
  | succ n ih => intro l1 l2 l3 l4 S s r h; exact ga_T_S fun hS => (by
    obtain ⟨rfl, rfl⟩ := hS
    exact ga_T_go (sp := ga_sp [(5, 0, 0, fun L s => match L with
      | [some (.ref 32), some (.int l1), some (.int l2), some (.int l3), some (.int l4)] => f_X0_thoseBefore_h5 n l1 l2 l3 l4 s
      | _ => none)]) (ga_sp_T (List.forall_mem_cons.mpr ⟨fun L S s1 h => (by
      dsimp only at h
      split at h
      · exact ih _ _ _ _  S s1 _ h
      · cases h), fun _ h => nomatch h⟩)) (n := 600) h)
set_option maxRecDepth 100000 in
theorem t_X0_thoseBefore (a : Int32) (b : Int32) (s : ga_M) (r : Int32) (h : f_X0_thoseBefore a b s = some r) : T_X0_thoseBefore gaSH s gp_kI (0, [some (.ref 32), some (.int a), some (.int b), none, none], [], gaSH, s, 0, 0) r := (by
    rw [fe_X0_thoseBefore] at h
    exact ga_T_go (sp := ga_sp [(5, 0, 0, fun L s => match L with
      | [some (.ref 32), some (.int l1), some (.int l2), some (.int l3), some (.int l4)] => f_X0_thoseBefore_h5 ga_fuel l1 l2 l3 l4 s
      | _ => none)]) (ga_sp_T (List.forall_mem_cons.mpr ⟨fun L S s1 h => (by
      dsimp only at h
      split at h
      · exact t_X0_thoseBefore_h5 s ga_fuel _ _ _ _  S s1 _ h
      · cases h), fun _ h => nomatch h⟩)) (n := 600) h)
abbrev T_X0_lowest {α : Type} (P : ga_S) (s0 : ga_M) (K0 : ga_O → Option α) (cfg : ga_C) (r : α) : Prop := ga_T RX0 cX0_lowest (ga_lk cl_X0_lowest) gaGP gaCost (fun _ => []) gaCls 84 0 0 false true false none (fun S σ => S = P ∧ σ = s0) K0 cfg r
set_option maxRecDepth 100000 in
theorem t_X0_lowest_h2 (s0 : ga_M) : ∀ (n : Nat) (l1 : Int32) (l2 : Int32) (w0 : Option Value) (S : ga_S) (s : ga_M) (r : Int32), f_X0_lowest_h2 n l1 l2 s = some r → T_X0_lowest gaSH s0 gp_kI (2, [w0, some (.int l1), some (.int l2)], [], S, s, 0, 0) r := by
  intro n
  induction n with
  | zero => intro l1 l2 w0 S s r h; cases h
  | succ n ih => intro l1 l2 w0 S s r h; exact ga_T_S fun hS => (by
    obtain ⟨rfl, rfl⟩ := hS
    exact ga_T_go (sp := ga_sp [(2, 0, 0, fun L s => match L with
      | [_, some (.int l1), some (.int l2)] => f_X0_lowest_h2 n l1 l2 s
      | _ => none)]) (ga_sp_T (List.forall_mem_cons.mpr ⟨fun L S s1 h => (by
      dsimp only at h
      split at h
      · exact ih _ _ _ S s1 _ h
      · cases h), fun _ h => nomatch h⟩)) (n := 600) h)
set_option maxRecDepth 100000 in
theorem t_X0_lowest (a : Int32) (s : ga_M) (r : Int32) (h : f_X0_lowest a s = some r) : T_X0_lowest gaSH s gp_kI (0, [some (.ref 32), some (.int a), none], [], gaSH, s, 0, 0) r := (by
    rw [fe_X0_lowest] at h
    exact ga_T_go (sp := ga_sp [(2, 0, 0, fun L s => match L with
      | [_, some (.int l1), some (.int l2)] => f_X0_lowest_h2 ga_fuel l1 l2 s
      | _ => none)]) (ga_sp_T (List.forall_mem_cons.mpr ⟨fun L S s1 h => (by
      dsimp only at h
      split at h
      · exact t_X0_lowest_h2 s ga_fuel _ _ _ S s1 _ h
      · cases h), fun _ h => nomatch h⟩)) (n := 600) h)
abbrev T_X0_choose {α : Type} (P : ga_S) (K0 : ga_O → Option α) (cfg : ga_C) (r : α) : Prop := ga_T RX0 cX0_choose (ga_lk cl_X0_choose) gaG gaCost (fun _ => []) gaCls 84 0 0 false true true none (fun S _ => S = P) K0 cfg r
set_option maxRecDepth 100000 in
theorem t_X0_choose_h72 : ∀ (n : Nat) (l2 : Int32) (l3 : Int32) (w0 : Option Value) (w1 : Option Value) (S : ga_S) (s : ga_M) (r : ga_M), f_X0_choose_h72 n l2 l3 s = some r → T_X0_choose gaSH ga_kV (72, [some (.ref 32), w0, some (.int l2), some (.int l3), w1], [], S, s, 0, 0) r := by
  intro n
  induction n with
  | zero => intro l2 l3 w0 w1 S s r h; cases h
  | succ n ih => intro l2 l3 w0 w1 S s r h; exact ga_T_S fun hS => (by
    cases hS
    exact ga_T_go (sp := ga_sp [(72, 0, 0, fun L s => match L with
      | [some (.ref 32), _, some (.int l2), some (.int l3), _] => f_X0_choose_h72 n l2 l3 s
      | _ => none)]) (ga_sp_T (List.forall_mem_cons.mpr ⟨fun L S s1 h => (by
      dsimp only at h
      split at h
      · exact ih _ _ _ _ S s1 _ h
      · cases h), fun _ h => nomatch h⟩)) (n := 600) h)
set_option maxRecDepth 100000 in
theorem t_X0_choose_h21 : ∀ (n : Nat) (l2 : Int32) (w0 : Option Value) (w1 : Option Value) (w2 : Option Value) (S : ga_S) (s : ga_M) (r : ga_M), f_X0_choose_h21 n l2 s = some r → T_X0_choose gaSH ga_kV (21, [some (.ref 32), w0, some (.int l2), w1, w2], [], S, s, 0, 0) r := by
  intro n
  induction n with
  | zero => intro l2 w0 w1 w2 S s r h; cases h
  | succ n ih => intro l2 w0 w1 w2 S s r h; exact ga_T_S fun hS => (by
    cases hS
    exact ga_T_go (sp := ga_sp [(72, 0, 0, fun L s => match L with
      | [some (.ref 32), _, some (.int l2), some (.int l3), _] => f_X0_choose_h72 ga_fuel l2 l3 s
      | _ => none), (21, 0, 0, fun L s => match L with
      | [some (.ref 32), _, some (.int l2), _, _] => f_X0_choose_h21 n l2 s
      | _ => none)]) (ga_sp_T (List.forall_mem_cons.mpr ⟨fun L S s1 h => (by
      dsimp only at h
      split at h
      · exact t_X0_choose_h72 ga_fuel _ _ _ _ S s1 _ h
      · cases h), List.forall_mem_cons.mpr ⟨fun L S s1 h => (by
      dsimp only at h
      split at h
      · exact ih _ _ _ _ S s1 _ h
      · cases h), fun _ h => nomatch h⟩⟩)) (n := 600) h)
set_option maxRecDepth 100000 in
theorem t_X0_choose (a : Int32) (s : ga_M) (r : ga_M) (h : f_X0_choose a s = some r) : T_X0_choose gaSH ga_kV (0, [some (.ref 32), some (.int a), none, none, none], [], gaSH, s, 0, 0) r := (by
    rw [fe_X0_choose] at h
    exact ga_T_go (sp := ga_sp [(21, 0, 0, fun L s => match L with
      | [some (.ref 32), _, some (.int l2), _, _] => f_X0_choose_h21 ga_fuel l2 s
      | _ => none)]) (ga_sp_T (List.forall_mem_cons.mpr ⟨fun L S s1 h => (by
      dsimp only at h
      split at h
      · exact t_X0_choose_h21 ga_fuel _ _ _ _ S s1 _ h
      · cases h), fun _ h => nomatch h⟩)) (n := 600) h)
abbrev T_X0_find {α : Type} (P : ga_S) (K0 : ga_O → Option α) (cfg : ga_C) (r : α) : Prop := ga_T RX0 cX0_find (ga_lk cl_X0_find) gaG gaCost (fun _ => []) gaCls 84 0 0 false true true none (fun S _ => S = P) K0 cfg r
set_option maxRecDepth 100000 in
theorem t_X0_find_h73 : ∀ (n : Nat) (l4 : Int32) (l5 : Int32) (l6 : Int32) (w0 : Option Value) (w1 : Option Value) (w2 : Option Value) (w3 : Option Value) (S : ga_S) (s : ga_M) (r : Int32 × ga_M), f_X0_find_h73 n l4 l5 l6 s = some r → T_X0_find gaSH ga_kI (73, [some (.ref 32), w0, w1, w2, some (.int l4), some (.int l5), some (.int l6), w3], [], S, s, 0, 0) r := by
  intro n
  induction n with
  | zero => intro l4 l5 l6 w0 w1 w2 w3 S s r h; cases h
  | succ n ih => intro l4 l5 l6 w0 w1 w2 w3 S s r h; exact ga_T_S fun hS => (by
    cases hS
    exact ga_T_go (sp := ga_sp [(73, 0, 0, fun L s => match L with
      | [some (.ref 32), _, _, _, some (.int l4), some (.int l5), some (.int l6), _] => f_X0_find_h73 n l4 l5 l6 s
      | _ => none)]) (ga_sp_T (List.forall_mem_cons.mpr ⟨fun L S s1 h => (by
      dsimp only at h
      split at h
      · exact ih _ _ _ _ _ _ _ S s1 _ h
      · cases h), fun _ h => nomatch h⟩)) (n := 600) h)
set_option maxRecDepth 100000 in
theorem t_X0_find (a : Int32) (s : ga_M) (r : Int32 × ga_M) (h : f_X0_find a s = some r) : T_X0_find gaSH ga_kI (0, [some (.ref 32), some (.int a), none, none, none, none, none, none], [], gaSH, s, 0, 0) r := (by
    rw [fe_X0_find] at h
    exact ga_T_go (sp := ga_sp [(73, 0, 0, fun L s => match L with
      | [some (.ref 32), _, _, _, some (.int l4), some (.int l5), some (.int l6), _] => f_X0_find_h73 ga_fuel l4 l5 l6 s
      | _ => none)]) (ga_sp_T (List.forall_mem_cons.mpr ⟨fun L S s1 h => (by
      dsimp only at h
      split at h
      · exact t_X0_find_h73 ga_fuel _ _ _ _ _ _ _ S s1 _ h
      · cases h), fun _ h => nomatch h⟩)) (n := 600) h)
abbrev T_X2_repairByChain {α : Type} (P : ga_S) (K0 : ga_O → Option α) (cfg : ga_C) (r : α) : Prop := ga_T RX2 cX2_repairByChain (ga_lk cl_X2_repairByChain) gaG gaCost (fun _ => []) gaCls 84 0 0 false true true none (fun S _ => S = P) K0 cfg r
set_option maxRecDepth 100000 in
theorem t_X2_repairByChain_h27 : ∀ (n : Nat) (l2 : Int32) (l3 : Int32) (l4 : Int32) (l5 : Int32) (w0 : Option Value) (w1 : Option Value) (w2 : Option Value) (S : ga_S) (s : ga_M) (r : Int32 × ga_M), f_X2_repairByChain_h27 n l2 l3 l4 l5 s = some r → T_X2_repairByChain gaSH ga_kI (27, [some (.ref 41), w0, some (.int l2), some (.int l3), some (.int l4), some (.int l5), w1, w2], [], S, s, 0, 0) r := by
  intro n
  induction n with
  | zero => intro l2 l3 l4 l5 w0 w1 w2 S s r h; cases h
  | succ n ih => intro l2 l3 l4 l5 w0 w1 w2 S s r h; exact ga_T_S fun hS => (by
    cases hS
    exact ga_T_go (sp := ga_sp [(27, 0, 0, fun L s => match L with
      | [some (.ref 41), _, some (.int l2), some (.int l3), some (.int l4), some (.int l5), _, _] => f_X2_repairByChain_h27 n l2 l3 l4 l5 s
      | _ => none)]) (ga_sp_T (List.forall_mem_cons.mpr ⟨fun L S s1 h => (by
      dsimp only at h
      split at h
      · exact ih _ _ _ _ _ _ _ S s1 _ h
      · cases h), fun _ h => nomatch h⟩)) (n := 600) h)
set_option maxRecDepth 100000 in
theorem t_X2_repairByChain (a : Int32) (s : ga_M) (r : Int32 × ga_M) (h : f_X2_repairByChain a s = some r) : T_X2_repairByChain gaSH ga_kI (0, [some (.ref 41), some (.int a), none, none, none, none, none, none], [], gaSH, s, 0, 0) r := (by
    rw [fe_X2_repairByChain] at h
    exact ga_T_go (sp := ga_sp [(27, 0, 0, fun L s => match L with
      | [some (.ref 41), _, some (.int l2), some (.int l3), some (.int l4), some (.int l5), _, _] => f_X2_repairByChain_h27 ga_fuel l2 l3 l4 l5 s
      | _ => none)]) (ga_sp_T (List.forall_mem_cons.mpr ⟨fun L S s1 h => (by
      dsimp only at h
      split at h
      · exact t_X2_repairByChain_h27 ga_fuel _ _ _ _ _ _ _ S s1 _ h
      · cases h), fun _ h => nomatch h⟩)) (n := 600) h)
abbrev T_X11_repair {α : Type} (P : ga_S) (K0 : ga_O → Option α) (cfg : ga_C) (r : α) : Prop := ga_T RX11 cX11_repair (ga_lk cl_X11_repair) gaG gaCost (fun _ => []) gaCls 84 2 12 false true true none (fun S _ => S = P) K0 cfg r
set_option maxRecDepth 100000 in
theorem t_X11_repair (a : Int32) (s : ga_M) (r : (Int32 ⊕ Nat) × ga_M) (h : f_X11_repair a s = some r) : T_X11_repair gaSH ga_kIX (0, [some (.ref 0), some (.int a)], [], gaSH, s, 0, 0) r := (by
    rw [fe_X11_repair] at h
    exact ga_T_go (sp := ga_sp []) (ga_sp_T (fun _ h => nomatch h)) (n := 600) h)
abbrev T_X2_repairOpenLessons {α : Type} (P : ga_S) (K0 : ga_O → Option α) (cfg : ga_C) (r : α) : Prop := ga_T RX2 cX2_repairOpenLessons (ga_lk cl_X2_repairOpenLessons) gaG gaCost (fun _ => []) gaCls 84 0 0 false true true none (fun S _ => S = P) K0 cfg r
set_option maxRecDepth 100000 in
theorem t_X2_repairOpenLessons_h4 : ∀ (n : Nat) (l1 : Int32) (l2 : Int32) (S : ga_S) (s : ga_M) (r : Int32 × ga_M), f_X2_repairOpenLessons_h4 n l1 l2 s = some r → T_X2_repairOpenLessons gaSH ga_kI (4, [some (.ref 41), some (.int l1), some (.int l2)], [], S, s, 0, 0) r := by
  intro n
  induction n with
  | zero => intro l1 l2 S s r h; cases h
  | succ n ih => intro l1 l2 S s r h; exact ga_T_S fun hS => (by
    cases hS
    exact ga_T_go (sp := ga_sp [(4, 0, 0, fun L s => match L with
      | [some (.ref 41), some (.int l1), some (.int l2)] => f_X2_repairOpenLessons_h4 n l1 l2 s
      | _ => none)]) (ga_sp_T (List.forall_mem_cons.mpr ⟨fun L S s1 h => (by
      dsimp only at h
      split at h
      · exact ih _ _  S s1 _ h
      · cases h), fun _ h => nomatch h⟩)) (n := 600) h)
set_option maxRecDepth 100000 in
theorem t_X2_repairOpenLessons (s : ga_M) (r : Int32 × ga_M) (h : f_X2_repairOpenLessons s = some r) : T_X2_repairOpenLessons gaSH ga_kI (0, [some (.ref 41), none, none], [], gaSH, s, 0, 0) r := (by
    rw [fe_X2_repairOpenLessons] at h
    exact ga_T_go (sp := ga_sp [(4, 0, 0, fun L s => match L with
      | [some (.ref 41), some (.int l1), some (.int l2)] => f_X2_repairOpenLessons_h4 ga_fuel l1 l2 s
      | _ => none)]) (ga_sp_T (List.forall_mem_cons.mpr ⟨fun L S s1 h => (by
      dsimp only at h
      split at h
      · exact t_X2_repairOpenLessons_h4 ga_fuel _ _  S s1 _ h
      · cases h), fun _ h => nomatch h⟩)) (n := 600) h)
abbrev T_X11_repairAll {α : Type} (P : ga_S) (K0 : ga_O → Option α) (cfg : ga_C) (r : α) : Prop := ga_T RX11 cX11_repairAll (ga_lk cl_X11_repairAll) gaG gaCost (fun _ => []) gaCls 84 0 0 false true true none (fun S _ => S = P) K0 cfg r
set_option maxRecDepth 100000 in
theorem t_X11_repairAll (s : ga_M) (r : Int32 × ga_M) (h : f_X11_repairAll s = some r) : T_X11_repairAll gaSH ga_kI (0, [some (.ref 0), none], [], gaSH, s, 0, 0) r := (by
    rw [fe_X11_repairAll] at h
    exact ga_T_go (sp := ga_sp []) (ga_sp_T (fun _ h => nomatch h)) (n := 600) h)
abbrev T_X4_isTeacherAwayAt {α : Type} (P : ga_S) (s0 : ga_M) (K0 : ga_O → Option α) (cfg : ga_C) (r : α) : Prop := ga_T RX4 cX4_isTeacherAwayAt (ga_lk cl_X4_isTeacherAwayAt) gaGP gaCost (fun _ => []) gaCls 84 0 0 false true false none (fun S σ => S = P ∧ σ = s0) K0 cfg r
set_option maxRecDepth 100000 in
theorem t_X4_isTeacherAwayAt (a : Int32) (b : Int32) (s : ga_M) (r : Int32) (h : f_X4_isTeacherAwayAt a b s = some r) : T_X4_isTeacherAwayAt gaSH s gp_kI (0, [some (.ref 31), some (.int a), some (.int b)], [], gaSH, s, 0, 0) r := (by
    rw [fe_X4_isTeacherAwayAt] at h
    exact ga_T_go (sp := ga_sp []) (ga_sp_T (fun _ h => nomatch h)) (n := 600) h)
abbrev T_X4_isHeldByThird {α : Type} (P : ga_S) (s0 : ga_M) (K0 : ga_O → Option α) (cfg : ga_C) (r : α) : Prop := ga_T RX4 cX4_isHeldByThird (ga_lk cl_X4_isHeldByThird) gaGP gaCost (fun _ => []) gaCls 84 0 0 false true false none (fun S σ => S = P ∧ σ = s0) K0 cfg r
set_option maxRecDepth 100000 in
theorem t_X4_isHeldByThird_23 (a : Int32) (b : Int32) (s : ga_M) (r : Int32) (h : f_X4_isHeldByThird_23 a b s = some r) : T_X4_isHeldByThird gaSH s gp_kI (0, [some (.ref 31), some (.ref 23), some (.int a), some (.int b), none], [], gaSH, s, 0, 0) r := (by
    rw [fe_X4_isHeldByThird_23] at h
    exact ga_T_go (sp := ga_sp []) (ga_sp_T (fun _ h => nomatch h)) (n := 600) h)
set_option maxRecDepth 100000 in
theorem t_X3_lessonAt_25_h3 (s0 : ga_M) : ∀ (n : Nat) (l1 : Int32) (l3 : Int32) (l4 : Int32) (S : ga_S) (s : ga_M) (r : Int32), f_X3_lessonAt_25_h3 n l1 l3 l4 s = some r → T_X3_lessonAt gaSH s0 gp_kI (3, [some (.ref 20), some (.int l1), some (.ref 25), some (.int l3), some (.int l4)], [], S, s, 0, 0) r := by
  intro n
  induction n with
  | zero => intro l1 l3 l4 S s r h; cases h
  | succ n ih => intro l1 l3 l4 S s r h; exact ga_T_S fun hS => (by
    obtain ⟨rfl, rfl⟩ := hS
    exact ga_T_go (sp := ga_sp [(3, 0, 0, fun L s => match L with
      | [some (.ref 20), some (.int l1), some (.ref 25), some (.int l3), some (.int l4)] => f_X3_lessonAt_25_h3 n l1 l3 l4 s
      | _ => none)]) (ga_sp_T (List.forall_mem_cons.mpr ⟨fun L S s1 h => (by
      dsimp only at h
      split at h
      · exact ih _ _ _  S s1 _ h
      · cases h), fun _ h => nomatch h⟩)) (n := 600) h)
set_option maxRecDepth 100000 in
theorem t_X3_lessonAt_25 (a : Int32) (b : Int32) (s : ga_M) (r : Int32) (h : f_X3_lessonAt_25 a b s = some r) : T_X3_lessonAt gaSH s gp_kI (0, [some (.ref 20), some (.int a), some (.ref 25), some (.int b), none], [], gaSH, s, 0, 0) r := (by
    rw [fe_X3_lessonAt_25] at h
    exact ga_T_go (sp := ga_sp [(3, 0, 0, fun L s => match L with
      | [some (.ref 20), some (.int l1), some (.ref 25), some (.int l3), some (.int l4)] => f_X3_lessonAt_25_h3 ga_fuel l1 l3 l4 s
      | _ => none)]) (ga_sp_T (List.forall_mem_cons.mpr ⟨fun L S s1 h => (by
      dsimp only at h
      split at h
      · exact t_X3_lessonAt_25_h3 s ga_fuel _ _ _  S s1 _ h
      · cases h), fun _ h => nomatch h⟩)) (n := 600) h)
set_option maxRecDepth 100000 in
theorem t_X4_isHeldByThird_25 (a : Int32) (b : Int32) (s : ga_M) (r : Int32) (h : f_X4_isHeldByThird_25 a b s = some r) : T_X4_isHeldByThird gaSH s gp_kI (0, [some (.ref 31), some (.ref 25), some (.int a), some (.int b), none], [], gaSH, s, 0, 0) r := (by
    rw [fe_X4_isHeldByThird_25] at h
    exact ga_T_go (sp := ga_sp []) (ga_sp_T (fun _ h => nomatch h)) (n := 600) h)
abbrev T_X4_againstExchange {α : Type} (P : ga_S) (s0 : ga_M) (K0 : ga_O → Option α) (cfg : ga_C) (r : α) : Prop := ga_T RX4 cX4_againstExchange (ga_lk cl_X4_againstExchange) gaGP gaCost (fun _ => []) gaCls 84 0 0 false true false none (fun S σ => S = P ∧ σ = s0) K0 cfg r
set_option maxRecDepth 100000 in
theorem t_X4_againstExchange (a : Int32) (b : Int32) (s : ga_M) (r : Int32) (h : f_X4_againstExchange a b s = some r) : T_X4_againstExchange gaSH s gp_kI (0, [some (.ref 31), some (.int a), some (.int b)], [], gaSH, s, 0, 0) r := (by
    rw [fe_X4_againstExchange] at h
    exact ga_T_go (sp := ga_sp []) (ga_sp_T (fun _ h => nomatch h)) (n := 600) h)
abbrev T_X2_swapSlots {α : Type} (P : ga_S) (K0 : ga_O → Option α) (cfg : ga_C) (r : α) : Prop := ga_T RX2 cX2_swapSlots (ga_lk cl_X2_swapSlots) gaG gaCost (fun _ => []) gaCls 84 0 0 false true true none (fun S _ => S = P) K0 cfg r
set_option maxRecDepth 100000 in
theorem t_X2_swapSlots (a : Int32) (b : Int32) (s : ga_M) (r : Int32 × ga_M) (h : f_X2_swapSlots a b s = some r) : T_X2_swapSlots gaSH ga_kI (0, [some (.ref 41), some (.int a), some (.int b), none], [], gaSH, s, 0, 0) r := (by
    rw [fe_X2_swapSlots] at h
    exact ga_T_go (sp := ga_sp []) (ga_sp_T (fun _ h => nomatch h)) (n := 600) h)
abbrev T_X11_exchange {α : Type} (P : ga_S) (K0 : ga_O → Option α) (cfg : ga_C) (r : α) : Prop := ga_T RX11 cX11_exchange (ga_lk cl_X11_exchange) gaG gaCost (fun _ => []) gaCls 84 3 18 false true true none (fun S _ => S = P) K0 cfg r
set_option maxRecDepth 100000 in
theorem t_X11_exchange (a : Int32) (b : Int32) (s : ga_M) (r : (Int32 ⊕ Nat) × ga_M) (h : f_X11_exchange a b s = some r) : T_X11_exchange gaSH ga_kIX (0, [some (.ref 0), some (.int a), some (.int b)], [], gaSH, s, 0, 0) r := (by
    rw [fe_X11_exchange] at h
    exact ga_T_go (sp := ga_sp []) (ga_sp_T (fun _ h => nomatch h)) (n := 600) h)
set_option maxRecDepth 100000 in
theorem t_X7_slots (s : ga_M) (r : Int32) (h : f_X7_slots s = some r) : T_X7_slots gaSH s gp_kI (0, [some (.ref 1)], [], gaSH, s, 0, 0) r := (by
    rw [fe_X7_slots] at h
    exact ga_T_go (sp := ga_sp []) (ga_sp_T (fun _ h => nomatch h)) (n := 600) h)
abbrev T_X7_hasSlot {α : Type} (P : ga_S) (s0 : ga_M) (K0 : ga_O → Option α) (cfg : ga_C) (r : α) : Prop := ga_T RX7 cX7_hasSlot (ga_lk cl_X7_hasSlot) gaGP gaCost (fun _ => []) gaCls 84 0 0 false true false none (fun S σ => S = P ∧ σ = s0) K0 cfg r
set_option maxRecDepth 100000 in
theorem t_X7_hasSlot (a : Int32) (s : ga_M) (r : Int32) (h : f_X7_hasSlot a s = some r) : T_X7_hasSlot gaSH s gp_kI (0, [some (.ref 1), some (.int a)], [], gaSH, s, 0, 0) r := (by
    rw [fe_X7_hasSlot] at h
    exact ga_T_go (sp := ga_sp []) (ga_sp_T (fun _ h => nomatch h)) (n := 600) h)
abbrev T_X11_requireSlot {α : Type} (P : ga_S) (s0 : ga_M) (K0 : ga_O → Option α) (cfg : ga_C) (r : α) : Prop := ga_T RX11 cX11_requireSlot (ga_lk cl_X11_requireSlot) gaGP gaCost (fun _ => []) gaCls 84 1 6 false true false none (fun S σ => S = P ∧ σ = s0) K0 cfg r
set_option maxRecDepth 100000 in
theorem t_X11_requireSlot (a : Int32) (s : ga_M) (r : Option Nat) (h : f_X11_requireSlot a s = some r) : T_X11_requireSlot gaSH s gp_kVX (0, [some (.ref 0), some (.int a)], [], gaSH, s, 0, 0) r := (by
    rw [fe_X11_requireSlot] at h
    exact ga_T_go (sp := ga_sp []) (ga_sp_T (fun _ h => nomatch h)) (n := 600) h)
set_option maxRecDepth 100000 in
theorem t_X3_lessonAt_10_h3 (s0 : ga_M) : ∀ (n : Nat) (l1 : Int32) (l3 : Int32) (l4 : Int32) (S : ga_S) (s : ga_M) (r : Int32), f_X3_lessonAt_10_h3 n l1 l3 l4 s = some r → T_X3_lessonAt gaSH s0 gp_kI (3, [some (.ref 20), some (.int l1), some (.ref 10), some (.int l3), some (.int l4)], [], S, s, 0, 0) r := by
  intro n
  induction n with
  | zero => intro l1 l3 l4 S s r h; cases h
  | succ n ih => intro l1 l3 l4 S s r h; exact ga_T_S fun hS => (by
    obtain ⟨rfl, rfl⟩ := hS
    exact ga_T_go (sp := ga_sp [(3, 0, 0, fun L s => match L with
      | [some (.ref 20), some (.int l1), some (.ref 10), some (.int l3), some (.int l4)] => f_X3_lessonAt_10_h3 n l1 l3 l4 s
      | _ => none)]) (ga_sp_T (List.forall_mem_cons.mpr ⟨fun L S s1 h => (by
      dsimp only at h
      split at h
      · exact ih _ _ _  S s1 _ h
      · cases h), fun _ h => nomatch h⟩)) (n := 600) h)
set_option maxRecDepth 100000 in
theorem t_X3_lessonAt_10 (a : Int32) (b : Int32) (s : ga_M) (r : Int32) (h : f_X3_lessonAt_10 a b s = some r) : T_X3_lessonAt gaSH s gp_kI (0, [some (.ref 20), some (.int a), some (.ref 10), some (.int b), none], [], gaSH, s, 0, 0) r := (by
    rw [fe_X3_lessonAt_10] at h
    exact ga_T_go (sp := ga_sp [(3, 0, 0, fun L s => match L with
      | [some (.ref 20), some (.int l1), some (.ref 10), some (.int l3), some (.int l4)] => f_X3_lessonAt_10_h3 ga_fuel l1 l3 l4 s
      | _ => none)]) (ga_sp_T (List.forall_mem_cons.mpr ⟨fun L S s1 h => (by
      dsimp only at h
      split at h
      · exact t_X3_lessonAt_10_h3 s ga_fuel _ _ _  S s1 _ h
      · cases h), fun _ h => nomatch h⟩)) (n := 600) h)
abbrev T_X4_againstMove {α : Type} (P : ga_S) (s0 : ga_M) (K0 : ga_O → Option α) (cfg : ga_C) (r : α) : Prop := ga_T RX4 cX4_againstMove (ga_lk cl_X4_againstMove) gaGP gaCost (fun _ => []) gaCls 84 0 0 false true false none (fun S σ => S = P ∧ σ = s0) K0 cfg r
set_option maxRecDepth 100000 in
theorem t_X4_againstMove (a : Int32) (b : Int32) (s : ga_M) (r : Int32) (h : f_X4_againstMove a b s = some r) : T_X4_againstMove gaSH s gp_kI (0, [some (.ref 31), some (.int a), some (.int b)], [], gaSH, s, 0, 0) r := (by
    rw [fe_X4_againstMove] at h
    exact ga_T_go (sp := ga_sp []) (ga_sp_T (fun _ h => nomatch h)) (n := 600) h)
abbrev T_X2_moveToSlot {α : Type} (P : ga_S) (K0 : ga_O → Option α) (cfg : ga_C) (r : α) : Prop := ga_T RX2 cX2_moveToSlot (ga_lk cl_X2_moveToSlot) gaG gaCost (fun _ => []) gaCls 84 0 0 false true true none (fun S _ => S = P) K0 cfg r
set_option maxRecDepth 100000 in
theorem t_X2_moveToSlot (a : Int32) (b : Int32) (s : ga_M) (r : Int32 × ga_M) (h : f_X2_moveToSlot a b s = some r) : T_X2_moveToSlot gaSH ga_kI (0, [some (.ref 41), some (.int a), some (.int b)], [], gaSH, s, 0, 0) r := (by
    rw [fe_X2_moveToSlot] at h
    exact ga_T_go (sp := ga_sp []) (ga_sp_T (fun _ h => nomatch h)) (n := 600) h)
abbrev T_X11_move {α : Type} (P : ga_S) (K0 : ga_O → Option α) (cfg : ga_C) (r : α) : Prop := ga_T RX11 cX11_move (ga_lk cl_X11_move) gaG gaCost (fun _ => []) gaCls 84 3 18 false true true none (fun S _ => S = P) K0 cfg r
set_option maxRecDepth 100000 in
theorem t_X11_move (a : Int32) (b : Int32) (s : ga_M) (r : (Int32 ⊕ Nat) × ga_M) (h : f_X11_move a b s = some r) : T_X11_move gaSH ga_kIX (0, [some (.ref 0), some (.int a), some (.int b), none], [], gaSH, s, 0, 0) r := (by
    rw [fe_X11_move] at h
    exact ga_T_go (sp := ga_sp []) (ga_sp_T (fun _ h => nomatch h)) (n := 600) h)
abbrev T_X7_hasRoom {α : Type} (P : ga_S) (s0 : ga_M) (K0 : ga_O → Option α) (cfg : ga_C) (r : α) : Prop := ga_T RX7 cX7_hasRoom (ga_lk cl_X7_hasRoom) gaGP gaCost (fun _ => []) gaCls 84 0 0 false true false none (fun S σ => S = P ∧ σ = s0) K0 cfg r
set_option maxRecDepth 100000 in
theorem t_X7_hasRoom (a : Int32) (s : ga_M) (r : Int32) (h : f_X7_hasRoom a s = some r) : T_X7_hasRoom gaSH s gp_kI (0, [some (.ref 1), some (.int a)], [], gaSH, s, 0, 0) r := (by
    rw [fe_X7_hasRoom] at h
    exact ga_T_go (sp := ga_sp []) (ga_sp_T (fun _ h => nomatch h)) (n := 600) h)
abbrev T_X11_requireRoom {α : Type} (P : ga_S) (s0 : ga_M) (K0 : ga_O → Option α) (cfg : ga_C) (r : α) : Prop := ga_T RX11 cX11_requireRoom (ga_lk cl_X11_requireRoom) gaGP gaCost (fun _ => []) gaCls 84 1 6 false true false none (fun S σ => S = P ∧ σ = s0) K0 cfg r
set_option maxRecDepth 100000 in
theorem t_X11_requireRoom (a : Int32) (s : ga_M) (r : Option Nat) (h : f_X11_requireRoom a s = some r) : T_X11_requireRoom gaSH s gp_kVX (0, [some (.ref 0), some (.int a)], [], gaSH, s, 0, 0) r := (by
    rw [fe_X11_requireRoom] at h
    exact ga_T_go (sp := ga_sp []) (ga_sp_T (fun _ h => nomatch h)) (n := 600) h)
abbrev T_X4_againstRoom {α : Type} (P : ga_S) (s0 : ga_M) (K0 : ga_O → Option α) (cfg : ga_C) (r : α) : Prop := ga_T RX4 cX4_againstRoom (ga_lk cl_X4_againstRoom) gaGP gaCost (fun _ => []) gaCls 84 0 0 false true false none (fun S σ => S = P ∧ σ = s0) K0 cfg r
set_option maxRecDepth 100000 in
theorem t_X4_againstRoom (a : Int32) (b : Int32) (s : ga_M) (r : Int32) (h : f_X4_againstRoom a b s = some r) : T_X4_againstRoom gaSH s gp_kI (0, [some (.ref 31), some (.int a), some (.int b)], [], gaSH, s, 0, 0) r := (by
    rw [fe_X4_againstRoom] at h
    exact ga_T_go (sp := ga_sp []) (ga_sp_T (fun _ h => nomatch h)) (n := 600) h)
abbrev T_X2_moveToRoom {α : Type} (P : ga_S) (K0 : ga_O → Option α) (cfg : ga_C) (r : α) : Prop := ga_T RX2 cX2_moveToRoom (ga_lk cl_X2_moveToRoom) gaG gaCost (fun _ => []) gaCls 84 0 0 false true true none (fun S _ => S = P) K0 cfg r
set_option maxRecDepth 100000 in
theorem t_X2_moveToRoom (a : Int32) (b : Int32) (s : ga_M) (r : Int32 × ga_M) (h : f_X2_moveToRoom a b s = some r) : T_X2_moveToRoom gaSH ga_kI (0, [some (.ref 41), some (.int a), some (.int b)], [], gaSH, s, 0, 0) r := (by
    rw [fe_X2_moveToRoom] at h
    exact ga_T_go (sp := ga_sp []) (ga_sp_T (fun _ h => nomatch h)) (n := 600) h)
abbrev T_X11_setRoom {α : Type} (P : ga_S) (K0 : ga_O → Option α) (cfg : ga_C) (r : α) : Prop := ga_T RX11 cX11_setRoom (ga_lk cl_X11_setRoom) gaG gaCost (fun _ => []) gaCls 84 3 18 false true true none (fun S _ => S = P) K0 cfg r
set_option maxRecDepth 100000 in
theorem t_X11_setRoom (a : Int32) (b : Int32) (s : ga_M) (r : (Int32 ⊕ Nat) × ga_M) (h : f_X11_setRoom a b s = some r) : T_X11_setRoom gaSH ga_kIX (0, [some (.ref 0), some (.int a), some (.int b), none], [], gaSH, s, 0, 0) r := (by
    rw [fe_X11_setRoom] at h
    exact ga_T_go (sp := ga_sp []) (ga_sp_T (fun _ h => nomatch h)) (n := 600) h)
abbrev T_X2_openAgain {α : Type} (P : ga_S) (K0 : ga_O → Option α) (cfg : ga_C) (r : α) : Prop := ga_T RX2 cX2_openAgain (ga_lk cl_X2_openAgain) gaG gaCost (fun _ => []) gaCls 84 0 0 false true true none (fun S _ => S = P) K0 cfg r
set_option maxRecDepth 100000 in
theorem t_X2_openAgain (a : Int32) (s : ga_M) (r : Int32 × ga_M) (h : f_X2_openAgain a s = some r) : T_X2_openAgain gaSH ga_kI (0, [some (.ref 41), some (.int a)], [], gaSH, s, 0, 0) r := (by
    rw [fe_X2_openAgain] at h
    exact ga_T_go (sp := ga_sp []) (ga_sp_T (fun _ h => nomatch h)) (n := 600) h)
abbrev T_X11_reopen {α : Type} (P : ga_S) (K0 : ga_O → Option α) (cfg : ga_C) (r : α) : Prop := ga_T RX11 cX11_reopen (ga_lk cl_X11_reopen) gaG gaCost (fun _ => []) gaCls 84 2 12 false true true none (fun S _ => S = P) K0 cfg r
set_option maxRecDepth 100000 in
theorem t_X11_reopen (a : Int32) (s : ga_M) (r : (Int32 ⊕ Nat) × ga_M) (h : f_X11_reopen a s = some r) : T_X11_reopen gaSH ga_kIX (0, [some (.ref 0), some (.int a), none], [], gaSH, s, 0, 0) r := (by
    rw [fe_X11_reopen] at h
    exact ga_T_go (sp := ga_sp []) (ga_sp_T (fun _ h => nomatch h)) (n := 600) h)
abbrev T_X3_differs {α : Type} (P : ga_S) (s0 : ga_M) (K0 : ga_O → Option α) (cfg : ga_C) (r : α) : Prop := ga_T RX3 cX3_differs (ga_lk cl_X3_differs) gaGP gaCost (fun _ => []) gaCls 84 0 0 false true false none (fun S σ => S = P ∧ σ = s0) K0 cfg r
set_option maxRecDepth 100000 in
theorem t_X3_differs (a : Int32) (s : ga_M) (r : Int32) (h : f_X3_differs a s = some r) : T_X3_differs gaSH s gp_kI (0, [some (.ref 20), some (.int a)], [], gaSH, s, 0, 0) r := (by
    rw [fe_X3_differs] at h
    exact ga_T_go (sp := ga_sp []) (ga_sp_T (fun _ h => nomatch h)) (n := 600) h)
abbrev T_X3_differingLessons {α : Type} (P : ga_S) (s0 : ga_M) (K0 : ga_O → Option α) (cfg : ga_C) (r : α) : Prop := ga_T RX3 cX3_differingLessons (ga_lk cl_X3_differingLessons) gaGP gaCost (fun _ => []) gaCls 84 0 0 false true false none (fun S σ => S = P ∧ σ = s0) K0 cfg r
set_option maxRecDepth 100000 in
theorem t_X3_differingLessons_h4 (s0 : ga_M) : ∀ (n : Nat) (l1 : Int32) (l2 : Int32) (S : ga_S) (s : ga_M) (r : Int32), f_X3_differingLessons_h4 n l1 l2 s = some r → T_X3_differingLessons gaSH s0 gp_kI (4, [some (.ref 20), some (.int l1), some (.int l2)], [], S, s, 0, 0) r := by
  intro n
  induction n with
  | zero => intro l1 l2 S s r h; cases h
  | succ n ih => intro l1 l2 S s r h; exact ga_T_S fun hS => (by
    obtain ⟨rfl, rfl⟩ := hS
    exact ga_T_go (sp := ga_sp [(4, 0, 0, fun L s => match L with
      | [some (.ref 20), some (.int l1), some (.int l2)] => f_X3_differingLessons_h4 n l1 l2 s
      | _ => none)]) (ga_sp_T (List.forall_mem_cons.mpr ⟨fun L S s1 h => (by
      dsimp only at h
      split at h
      · exact ih _ _  S s1 _ h
      · cases h), fun _ h => nomatch h⟩)) (n := 600) h)
set_option maxRecDepth 100000 in
theorem t_X3_differingLessons (s : ga_M) (r : Int32) (h : f_X3_differingLessons s = some r) : T_X3_differingLessons gaSH s gp_kI (0, [some (.ref 20), none, none], [], gaSH, s, 0, 0) r := (by
    rw [fe_X3_differingLessons] at h
    exact ga_T_go (sp := ga_sp [(4, 0, 0, fun L s => match L with
      | [some (.ref 20), some (.int l1), some (.int l2)] => f_X3_differingLessons_h4 ga_fuel l1 l2 s
      | _ => none)]) (ga_sp_T (List.forall_mem_cons.mpr ⟨fun L S s1 h => (by
      dsimp only at h
      split at h
      · exact t_X3_differingLessons_h4 s ga_fuel _ _  S s1 _ h
      · cases h), fun _ h => nomatch h⟩)) (n := 600) h)
abbrev T_X11_reset {α : Type} (P : ga_S) (K0 : ga_O → Option α) (cfg : ga_C) (r : α) : Prop := ga_T RX11 cX11_reset (ga_lk cl_X11_reset) gaG gaCost (fun _ => []) gaCls 84 0 0 false true true none (fun S _ => S = P) K0 cfg r
set_option maxRecDepth 100000 in
theorem t_X11_reset (s : ga_M) (r : Int32 × ga_M) (h : f_X11_reset s = some r) : T_X11_reset gaSH ga_kI (0, [some (.ref 0), none], [], gaSH, s, 0, 0) r := (by
    rw [fe_X11_reset] at h
    exact ga_T_go (sp := ga_sp []) (ga_sp_T (fun _ h => nomatch h)) (n := 600) h)
abbrev T_X11_whyNotCover {α : Type} (P : ga_S) (s0 : ga_M) (K0 : ga_O → Option α) (cfg : ga_C) (r : α) : Prop := ga_T RX11 cX11_whyNotCover (ga_lk cl_X11_whyNotCover) gaGP gaCost (fun _ => []) gaCls 84 2 12 false true false none (fun S σ => S = P ∧ σ = s0) K0 cfg r
set_option maxRecDepth 100000 in
theorem t_X11_whyNotCover (a : Int32) (b : Int32) (s : ga_M) (r : Int32 ⊕ Nat) (h : f_X11_whyNotCover a b s = some r) : T_X11_whyNotCover gaSH s gp_kIX (0, [some (.ref 0), some (.int a), some (.int b)], [], gaSH, s, 0, 0) r := (by
    rw [fe_X11_whyNotCover] at h
    exact ga_T_go (sp := ga_sp []) (ga_sp_T (fun _ h => nomatch h)) (n := 600) h)
abbrev T_X11_whyNotSupervise {α : Type} (P : ga_S) (s0 : ga_M) (K0 : ga_O → Option α) (cfg : ga_C) (r : α) : Prop := ga_T RX11 cX11_whyNotSupervise (ga_lk cl_X11_whyNotSupervise) gaGP gaCost (fun _ => []) gaCls 84 2 12 false true false none (fun S σ => S = P ∧ σ = s0) K0 cfg r
set_option maxRecDepth 100000 in
theorem t_X11_whyNotSupervise (a : Int32) (b : Int32) (s : ga_M) (r : Int32 ⊕ Nat) (h : f_X11_whyNotSupervise a b s = some r) : T_X11_whyNotSupervise gaSH s gp_kIX (0, [some (.ref 0), some (.int a), some (.int b)], [], gaSH, s, 0, 0) r := (by
    rw [fe_X11_whyNotSupervise] at h
    exact ga_T_go (sp := ga_sp []) (ga_sp_T (fun _ h => nomatch h)) (n := 600) h)
abbrev T_X11_whyNotExchange {α : Type} (P : ga_S) (s0 : ga_M) (K0 : ga_O → Option α) (cfg : ga_C) (r : α) : Prop := ga_T RX11 cX11_whyNotExchange (ga_lk cl_X11_whyNotExchange) gaGP gaCost (fun _ => []) gaCls 84 2 12 false true false none (fun S σ => S = P ∧ σ = s0) K0 cfg r
set_option maxRecDepth 100000 in
theorem t_X11_whyNotExchange (a : Int32) (b : Int32) (s : ga_M) (r : Int32 ⊕ Nat) (h : f_X11_whyNotExchange a b s = some r) : T_X11_whyNotExchange gaSH s gp_kIX (0, [some (.ref 0), some (.int a), some (.int b)], [], gaSH, s, 0, 0) r := (by
    rw [fe_X11_whyNotExchange] at h
    exact ga_T_go (sp := ga_sp []) (ga_sp_T (fun _ h => nomatch h)) (n := 600) h)
abbrev T_X11_whyNotRoom {α : Type} (P : ga_S) (s0 : ga_M) (K0 : ga_O → Option α) (cfg : ga_C) (r : α) : Prop := ga_T RX11 cX11_whyNotRoom (ga_lk cl_X11_whyNotRoom) gaGP gaCost (fun _ => []) gaCls 84 2 12 false true false none (fun S σ => S = P ∧ σ = s0) K0 cfg r
set_option maxRecDepth 100000 in
theorem t_X11_whyNotRoom (a : Int32) (b : Int32) (s : ga_M) (r : Int32 ⊕ Nat) (h : f_X11_whyNotRoom a b s = some r) : T_X11_whyNotRoom gaSH s gp_kIX (0, [some (.ref 0), some (.int a), some (.int b)], [], gaSH, s, 0, 0) r := (by
    rw [fe_X11_whyNotRoom] at h
    exact ga_T_go (sp := ga_sp []) (ga_sp_T (fun _ h => nomatch h)) (n := 600) h)
abbrev T_X11_candidates {α : Type} (P : ga_S) (s0 : ga_M) (K0 : ga_O → Option α) (cfg : ga_C) (r : α) : Prop := ga_T RX11 cX11_candidates (ga_lk cl_X11_candidates) gaGP gaCost (fun _ => []) gaCls 84 1 6 false true false none (fun S σ => S = P ∧ σ = s0) K0 cfg r
set_option maxRecDepth 100000 in
theorem t_X11_candidates_h9 (s0 : ga_M) : ∀ (n : Nat) (l1 : Int32) (l2 : Int32) (l3 : Int32) (S : ga_S) (s : ga_M) (r : Int32 ⊕ Nat), f_X11_candidates_h9 n l1 l2 l3 s = some r → T_X11_candidates gaSH s0 gp_kIX (9, [some (.ref 0), some (.int l1), some (.int l2), some (.int l3)], [], S, s, 1, 6) r := by
  intro n
  induction n with
  | zero => intro l1 l2 l3 S s r h; cases h
  | succ n ih => intro l1 l2 l3 S s r h; exact ga_T_S fun hS => (by
    obtain ⟨rfl, rfl⟩ := hS
    exact ga_T_go (sp := ga_sp [(9, 1, 6, fun L s => match L with
      | [some (.ref 0), some (.int l1), some (.int l2), some (.int l3)] => f_X11_candidates_h9 n l1 l2 l3 s
      | _ => none)]) (ga_sp_T (List.forall_mem_cons.mpr ⟨fun L S s1 h => (by
      dsimp only at h
      split at h
      · exact ih _ _ _  S s1 _ h
      · cases h), fun _ h => nomatch h⟩)) (n := 600) h)
set_option maxRecDepth 100000 in
theorem t_X11_candidates (a : Int32) (s : ga_M) (r : Int32 ⊕ Nat) (h : f_X11_candidates a s = some r) : T_X11_candidates gaSH s gp_kIX (0, [some (.ref 0), some (.int a), none, none], [], gaSH, s, 0, 0) r := (by
    rw [fe_X11_candidates] at h
    exact ga_T_go (sp := ga_sp [(9, 1, 6, fun L s => match L with
      | [some (.ref 0), some (.int l1), some (.int l2), some (.int l3)] => f_X11_candidates_h9 ga_fuel l1 l2 l3 s
      | _ => none)]) (ga_sp_T (List.forall_mem_cons.mpr ⟨fun L S s1 h => (by
      dsimp only at h
      split at h
      · exact t_X11_candidates_h9 s ga_fuel _ _ _  S s1 _ h
      · cases h), fun _ h => nomatch h⟩)) (n := 600) h)
abbrev T_X11_chain {α : Type} (P : ga_S) (K0 : ga_O → Option α) (cfg : ga_C) (r : α) : Prop := ga_T RX11 cX11_chain (ga_lk cl_X11_chain) gaG gaCost (fun _ => []) gaCls 84 1 6 false true true none (fun S _ => S = P) K0 cfg r
set_option maxRecDepth 100000 in
theorem t_X11_chain (a : Int32) (s : ga_M) (r : (Int32 ⊕ Nat) × ga_M) (h : f_X11_chain a s = some r) : T_X11_chain gaSH ga_kIX (0, [some (.ref 0), some (.int a)], [], gaSH, s, 0, 0) r := (by
    rw [fe_X11_chain] at h
    exact ga_T_go (sp := ga_sp []) (ga_sp_T (fun _ h => nomatch h)) (n := 600) h)
abbrev T_X11_chainTeacher {α : Type} (P : ga_S) (K0 : ga_O → Option α) (cfg : ga_C) (r : α) : Prop := ga_T RX11 cX11_chainTeacher (ga_lk cl_X11_chainTeacher) gaG gaCost (fun _ => []) gaCls 84 2 12 false true true none (fun S _ => S = P) K0 cfg r
set_option maxRecDepth 100000 in
theorem t_X11_chainTeacher (a : Int32) (b : Int32) (s : ga_M) (r : (Int32 ⊕ Nat) × ga_M) (h : f_X11_chainTeacher a b s = some r) : T_X11_chainTeacher gaSH ga_kIX (0, [some (.ref 0), some (.int a), some (.int b), none], [], gaSH, s, 0, 0) r := (by
    rw [fe_X11_chainTeacher] at h
    exact ga_T_go (sp := ga_sp []) (ga_sp_T (fun _ h => nomatch h)) (n := 600) h)
abbrev T_X11_slotsFor {α : Type} (P : ga_S) (s0 : ga_M) (K0 : ga_O → Option α) (cfg : ga_C) (r : α) : Prop := ga_T RX11 cX11_slotsFor (ga_lk cl_X11_slotsFor) gaGP gaCost (fun _ => []) gaCls 84 1 6 false true false none (fun S σ => S = P ∧ σ = s0) K0 cfg r
set_option maxRecDepth 100000 in
theorem t_X11_slotsFor_h9 (s0 : ga_M) : ∀ (n : Nat) (l1 : Int32) (l2 : Int32) (l3 : Int32) (S : ga_S) (s : ga_M) (r : Int32 ⊕ Nat), f_X11_slotsFor_h9 n l1 l2 l3 s = some r → T_X11_slotsFor gaSH s0 gp_kIX (9, [some (.ref 0), some (.int l1), some (.int l2), some (.int l3)], [], S, s, 1, 6) r := by
  intro n
  induction n with
  | zero => intro l1 l2 l3 S s r h; cases h
  | succ n ih => intro l1 l2 l3 S s r h; exact ga_T_S fun hS => (by
    obtain ⟨rfl, rfl⟩ := hS
    exact ga_T_go (sp := ga_sp [(9, 1, 6, fun L s => match L with
      | [some (.ref 0), some (.int l1), some (.int l2), some (.int l3)] => f_X11_slotsFor_h9 n l1 l2 l3 s
      | _ => none)]) (ga_sp_T (List.forall_mem_cons.mpr ⟨fun L S s1 h => (by
      dsimp only at h
      split at h
      · exact ih _ _ _  S s1 _ h
      · cases h), fun _ h => nomatch h⟩)) (n := 600) h)
set_option maxRecDepth 100000 in
theorem t_X11_slotsFor (a : Int32) (s : ga_M) (r : Int32 ⊕ Nat) (h : f_X11_slotsFor a s = some r) : T_X11_slotsFor gaSH s gp_kIX (0, [some (.ref 0), some (.int a), none, none], [], gaSH, s, 0, 0) r := (by
    rw [fe_X11_slotsFor] at h
    exact ga_T_go (sp := ga_sp [(9, 1, 6, fun L s => match L with
      | [some (.ref 0), some (.int l1), some (.int l2), some (.int l3)] => f_X11_slotsFor_h9 ga_fuel l1 l2 l3 s
      | _ => none)]) (ga_sp_T (List.forall_mem_cons.mpr ⟨fun L S s1 h => (by
      dsimp only at h
      split at h
      · exact t_X11_slotsFor_h9 s ga_fuel _ _ _  S s1 _ h
      · cases h), fun _ h => nomatch h⟩)) (n := 600) h)
