abbrev T_L_reopen {α : Type} (P : ga_S) (K0 : ga_O → Option α) (cfg : ga_C) (r : α) : Prop := ga_T RL cL_reopen (ga_lk cl_L_reopen) gaG gaCost (fun pc => bif Nat.beq pc 2 then [(1, 7, 2)] else []) gaCls 84 2 12 false true true none (fun S _ => S = P) K0 cfg r
set_option maxRecDepth 100000 in
theorem t_L_reopen_0 (a : Int32) (s : ga_M) (r : (Int32 ⊕ Nat) × ga_M) (h : f_L_reopen_0 a s = some r) : T_L_reopen gaSH ga_kIX (0, [some (.ref 0), some (.int a), none], [], gaSH, s, 0, 0) r := (by
    rw [fe_L_reopen_0] at h
    exact ga_T_go (sp := ga_sp []) (ga_sp_T (fun _ h => nomatch h)) (n := 600) h)
