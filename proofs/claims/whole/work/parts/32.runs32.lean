abbrev T_L_openLesson {α : Type} (P : ga_S) (K0 : ga_O → Option α) (cfg : ga_C) (r : α) : Prop := ga_T RL cL_openLesson (ga_lk cl_L_openLesson) gaG gaCost (fun pc => bif Nat.beq pc 4 then [(4, 13, 3)] else []) gaCls 83 1 6 false true true none (fun S _ => S = P) K0 cfg r
set_option maxRecDepth 100000 in
theorem t_L_openLesson_0_82 (a : Int32) (s : ga_M) (r : (Int32 ⊕ Nat) × ga_M) (h : f_L_openLesson_0_82 a s = some r) : T_L_openLesson gaSH ga_kIX (0, [some (.ref 0), some (.int a), some (.ref 82), none], [], gaSH, s, 0, 0) r := (by
    rw [fe_L_openLesson_0_82] at h
    exact ga_T_go (sp := ga_sp []) (ga_sp_T (fun _ h => nomatch h)) (n := 600) h)
abbrev T_L_difference {α : Type} (P : ga_S) (K0 : ga_O → Option α) (cfg : ga_C) (r : α) : Prop := ga_T RL cL_difference (ga_lk cl_L_difference) gaG gaCost (fun pc => bif Nat.beq pc 4 then [(4, 13, 3)] else []) gaCls 83 1 6 false true true none (fun S _ => S = P) K0 cfg r
set_option maxRecDepth 100000 in
theorem t_L_difference_0_82 (a : Int32) (s : ga_M) (r : (Int32 ⊕ Nat) × ga_M) (h : f_L_difference_0_82 a s = some r) : T_L_difference gaSH ga_kIX (0, [some (.ref 0), some (.int a), some (.ref 82), none], [], gaSH, s, 0, 0) r := (by
    rw [fe_L_difference_0_82] at h
    exact ga_T_go (sp := ga_sp []) (ga_sp_T (fun _ h => nomatch h)) (n := 600) h)
abbrev T_L_windows {α : Type} (P : ga_S) (K0 : ga_O → Option α) (cfg : ga_C) (r : α) : Prop := ga_T RL cL_windows (ga_lk cl_L_windows) gaG gaCost (fun pc => bif Nat.beq pc 5 then [(3, 15, 4)] else []) gaCls 83 2 12 false true true none (fun S _ => S = P) K0 cfg r
set_option maxRecDepth 100000 in
theorem t_L_windows_0_82 (a : Int32) (b : Int32) (s : ga_M) (r : (Int32 ⊕ Nat) × ga_M) (h : f_L_windows_0_82 a b s = some r) : T_L_windows gaSH ga_kIX (0, [some (.ref 0), some (.int a), some (.int b), some (.ref 82), none], [], gaSH, s, 0, 0) r := (by
    rw [fe_L_windows_0_82] at h
    exact ga_T_go (sp := ga_sp []) (ga_sp_T (fun _ h => nomatch h)) (n := 600) h)
abbrev T_L_classWindows {α : Type} (P : ga_S) (K0 : ga_O → Option α) (cfg : ga_C) (r : α) : Prop := ga_T RL cL_classWindows (ga_lk cl_L_classWindows) gaG gaCost (fun pc => bif Nat.beq pc 5 then [(3, 15, 4)] else []) gaCls 83 2 12 false true true none (fun S _ => S = P) K0 cfg r
set_option maxRecDepth 100000 in
theorem t_L_classWindows_0_82 (a : Int32) (b : Int32) (s : ga_M) (r : (Int32 ⊕ Nat) × ga_M) (h : f_L_classWindows_0_82 a b s = some r) : T_L_classWindows gaSH ga_kIX (0, [some (.ref 0), some (.int a), some (.int b), some (.ref 82), none], [], gaSH, s, 0, 0) r := (by
    rw [fe_L_classWindows_0_82] at h
    exact ga_T_go (sp := ga_sp []) (ga_sp_T (fun _ h => nomatch h)) (n := 600) h)
abbrev T_L_writeReport {α : Type} (P : ga_S) (K0 : ga_O → Option α) (cfg : ga_C) (r : α) : Prop := ga_T RL cL_writeReport (ga_lk cl_L_writeReport) gaG gaCost (fun pc => bif Nat.beq pc 4 then [(3, 13, 3)] else []) gaCls 83 1 6 false true true none (fun S _ => S = P) K0 cfg r
set_option maxRecDepth 100000 in
theorem t_L_writeReport_0_82 (a : Int32) (s : ga_M) (r : (Int32 ⊕ Nat) × ga_M) (h : f_L_writeReport_0_82 a s = some r) : T_L_writeReport gaSH ga_kIX (0, [some (.ref 0), some (.int a), some (.ref 82), none], [], gaSH, s, 0, 0) r := (by
    rw [fe_L_writeReport_0_82] at h
    exact ga_T_go (sp := ga_sp []) (ga_sp_T (fun _ h => nomatch h)) (n := 600) h)
abbrev T_L_reportByte {α : Type} (P : ga_S) (K0 : ga_O → Option α) (cfg : ga_C) (r : α) : Prop := ga_T RL cL_reportByte (ga_lk cl_L_reportByte) gaG gaCost (fun pc => bif Nat.beq pc 4 then [(3, 13, 3)] else []) gaCls 83 1 6 false true true none (fun S _ => S = P) K0 cfg r
set_option maxRecDepth 100000 in
theorem t_L_reportByte_0_82 (a : Int32) (s : ga_M) (r : (Int32 ⊕ Nat) × ga_M) (h : f_L_reportByte_0_82 a s = some r) : T_L_reportByte gaSH ga_kIX (0, [some (.ref 0), some (.int a), some (.ref 82), none], [], gaSH, s, 0, 0) r := (by
    rw [fe_L_reportByte_0_82] at h
    exact ga_T_go (sp := ga_sp []) (ga_sp_T (fun _ h => nomatch h)) (n := 600) h)
abbrev T_L_undo {α : Type} (P : ga_S) (K0 : ga_O → Option α) (cfg : ga_C) (r : α) : Prop := ga_T RL cL_undo (ga_lk cl_L_undo) gaG gaCost (fun pc => bif Nat.beq pc 3 then [(1, 12, 2)] else []) gaCls 83 1 6 false true true none (fun S _ => S = P) K0 cfg r
set_option maxRecDepth 100000 in
theorem t_L_undo_0_82 (s : ga_M) (r : (Int32 ⊕ Nat) × ga_M) (h : f_L_undo_0_82 s = some r) : T_L_undo gaSH ga_kIX (0, [some (.ref 0), some (.ref 82), none], [], gaSH, s, 0, 0) r := (by
    rw [fe_L_undo_0_82] at h
    exact ga_T_go (sp := ga_sp []) (ga_sp_T (fun _ h => nomatch h)) (n := 600) h)
