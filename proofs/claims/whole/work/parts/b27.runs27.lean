abbrev T_X11_requireSlot {α : Type} (P : ga_S) (s0 : ga_M) (K0 : ga_O → Option α) (cfg : ga_C) (r : α) : Prop := ga_T RX11 cX11_requireSlot (ga_lk cl_X11_requireSlot) gaGP gaCost (fun _ => []) gaCls 83 1 6 false true false none (fun S σ => S = P ∧ σ = s0) K0 cfg r
set_option maxRecDepth 100000 in
theorem t_X11_requireSlot (a : Int32) (s : ga_M) (r : Option Nat) (h : f_X11_requireSlot a s = some r) : T_X11_requireSlot gaSH s gp_kVX (0, [some (.ref 0), some (.int a)], [], gaSH, s, 0, 0) r := (by
    rw [fe_X11_requireSlot] at h
    exact ga_T_go (sp := ga_sp []) (ga_sp_T (fun _ h => nomatch h)) (n := 600) h)
abbrev T_X11_move {α : Type} (P : ga_S) (K0 : ga_O → Option α) (cfg : ga_C) (r : α) : Prop := ga_T RX11 cX11_move (ga_lk cl_X11_move) gaG gaCost (fun _ => []) gaCls 83 3 18 false true true none (fun S _ => S = P) K0 cfg r
set_option maxRecDepth 100000 in
theorem t_X11_move (a : Int32) (b : Int32) (s : ga_M) (r : (Int32 ⊕ Nat) × ga_M) (h : f_X11_move a b s = some r) : T_X11_move gaSH ga_kIX (0, [some (.ref 0), some (.int a), some (.int b), none], [], gaSH, s, 0, 0) r := (by
    rw [fe_X11_move] at h
    exact ga_T_go (sp := ga_sp []) (ga_sp_T (fun _ h => nomatch h)) (n := 600) h)
abbrev T_X12_move {α : Type} (P : ga_S) (K0 : ga_O → Option α) (cfg : ga_C) (r : α) : Prop := ga_T RX12 cX12_move (ga_lk cl_X12_move) gaG gaCost (fun _ => []) gaCls 83 0 0 false true true none (fun S _ => S = P) K0 cfg r
set_option maxRecDepth 100000 in
theorem t_X12_move (a : Int32) (b : Int32) (s : ga_M) (r : Int32 × ga_M) (h : f_X12_move a b s = some r) : T_X12_move gaSH ga_kI (0, [some (.ref 72), some (.int a), some (.int b), none], [], gaSH, s, 0, 0) r := (by
    rw [fe_X12_move] at h
    exact ga_T_go (sp := ga_sp []) (ga_sp_T (fun _ h => nomatch h)) (n := 600) h)
abbrev T_X11_requireRoom {α : Type} (P : ga_S) (s0 : ga_M) (K0 : ga_O → Option α) (cfg : ga_C) (r : α) : Prop := ga_T RX11 cX11_requireRoom (ga_lk cl_X11_requireRoom) gaGP gaCost (fun _ => []) gaCls 83 1 6 false true false none (fun S σ => S = P ∧ σ = s0) K0 cfg r
set_option maxRecDepth 100000 in
theorem t_X11_requireRoom (a : Int32) (s : ga_M) (r : Option Nat) (h : f_X11_requireRoom a s = some r) : T_X11_requireRoom gaSH s gp_kVX (0, [some (.ref 0), some (.int a)], [], gaSH, s, 0, 0) r := (by
    rw [fe_X11_requireRoom] at h
    exact ga_T_go (sp := ga_sp []) (ga_sp_T (fun _ h => nomatch h)) (n := 600) h)
abbrev T_X11_setRoom {α : Type} (P : ga_S) (K0 : ga_O → Option α) (cfg : ga_C) (r : α) : Prop := ga_T RX11 cX11_setRoom (ga_lk cl_X11_setRoom) gaG gaCost (fun _ => []) gaCls 83 3 18 false true true none (fun S _ => S = P) K0 cfg r
set_option maxRecDepth 100000 in
theorem t_X11_setRoom (a : Int32) (b : Int32) (s : ga_M) (r : (Int32 ⊕ Nat) × ga_M) (h : f_X11_setRoom a b s = some r) : T_X11_setRoom gaSH ga_kIX (0, [some (.ref 0), some (.int a), some (.int b), none], [], gaSH, s, 0, 0) r := (by
    rw [fe_X11_setRoom] at h
    exact ga_T_go (sp := ga_sp []) (ga_sp_T (fun _ h => nomatch h)) (n := 600) h)
abbrev T_X12_setRoom {α : Type} (P : ga_S) (K0 : ga_O → Option α) (cfg : ga_C) (r : α) : Prop := ga_T RX12 cX12_setRoom (ga_lk cl_X12_setRoom) gaG gaCost (fun _ => []) gaCls 83 0 0 false true true none (fun S _ => S = P) K0 cfg r
set_option maxRecDepth 100000 in
theorem t_X12_setRoom (a : Int32) (b : Int32) (s : ga_M) (r : Int32 × ga_M) (h : f_X12_setRoom a b s = some r) : T_X12_setRoom gaSH ga_kI (0, [some (.ref 72), some (.int a), some (.int b), none], [], gaSH, s, 0, 0) r := (by
    rw [fe_X12_setRoom] at h
    exact ga_T_go (sp := ga_sp []) (ga_sp_T (fun _ h => nomatch h)) (n := 600) h)
abbrev T_X11_reopen {α : Type} (P : ga_S) (K0 : ga_O → Option α) (cfg : ga_C) (r : α) : Prop := ga_T RX11 cX11_reopen (ga_lk cl_X11_reopen) gaG gaCost (fun _ => []) gaCls 83 2 12 false true true none (fun S _ => S = P) K0 cfg r
set_option maxRecDepth 100000 in
theorem t_X11_reopen (a : Int32) (s : ga_M) (r : (Int32 ⊕ Nat) × ga_M) (h : f_X11_reopen a s = some r) : T_X11_reopen gaSH ga_kIX (0, [some (.ref 0), some (.int a), none], [], gaSH, s, 0, 0) r := (by
    rw [fe_X11_reopen] at h
    exact ga_T_go (sp := ga_sp []) (ga_sp_T (fun _ h => nomatch h)) (n := 600) h)
abbrev T_X12_reopen {α : Type} (P : ga_S) (K0 : ga_O → Option α) (cfg : ga_C) (r : α) : Prop := ga_T RX12 cX12_reopen (ga_lk cl_X12_reopen) gaG gaCost (fun _ => []) gaCls 83 0 0 false true true none (fun S _ => S = P) K0 cfg r
set_option maxRecDepth 100000 in
theorem t_X12_reopen (a : Int32) (s : ga_M) (r : Int32 × ga_M) (h : f_X12_reopen a s = some r) : T_X12_reopen gaSH ga_kI (0, [some (.ref 72), some (.int a), none], [], gaSH, s, 0, 0) r := (by
    rw [fe_X12_reopen] at h
    exact ga_T_go (sp := ga_sp []) (ga_sp_T (fun _ h => nomatch h)) (n := 600) h)
abbrev T_X3_differs {α : Type} (P : ga_S) (s0 : ga_M) (K0 : ga_O → Option α) (cfg : ga_C) (r : α) : Prop := ga_T RX3 cX3_differs (ga_lk cl_X3_differs) gaGP gaCost (fun _ => []) gaCls 83 0 0 false true false none (fun S σ => S = P ∧ σ = s0) K0 cfg r
set_option maxRecDepth 100000 in
theorem t_X3_differs (a : Int32) (s : ga_M) (r : Int32) (h : f_X3_differs a s = some r) : T_X3_differs gaSH s gp_kI (0, [some (.ref 20), some (.int a)], [], gaSH, s, 0, 0) r := (by
    rw [fe_X3_differs] at h
    exact ga_T_go (sp := ga_sp []) (ga_sp_T (fun _ h => nomatch h)) (n := 600) h)
abbrev T_X3_differingLessons {α : Type} (P : ga_S) (s0 : ga_M) (K0 : ga_O → Option α) (cfg : ga_C) (r : α) : Prop := ga_T RX3 cX3_differingLessons (ga_lk cl_X3_differingLessons) gaGP gaCost (fun _ => []) gaCls 83 0 0 false true false none (fun S σ => S = P ∧ σ = s0) K0 cfg r
set_option maxRecDepth 100000 in
theorem t_X3_differingLessons_h4 (s0 : ga_M) : ∀ (n : Nat) (l1 : Int32) (l2 : Int32) (S : ga_S) (s : ga_M) (r : Int32), f_X3_differingLessons_h4 n l1 l2 s = some r → T_X3_differingLessons gaSH s0 gp_kI (4, [some (.ref 20), some (.int l1), some (.int l2)], [], S, s, 0, 0) r := by
  intro n
  induction n with
  | zero => intro l1 l2 S s r h; cases h
  | succ n ih => intro l1 l2 S s r h; exact ga_T_S fun hS => (by
    obtain ⟨rfl, rfl⟩ := hS
    exact ga_T_go (sp := ga_sp [(4, 0, 0, fun L s => match L with
      | [some (.ref 20), some (.int l1), some (.int l2)] => f_X3_differingLessons_h4 n l1 l2 s
      | _ => none)]) (ga_sp_T (List.forall_mem_cons.mpr ⟨fun L S s1 h => (by
      dsimp only at h
      split at h
      · exact ih _ _  S s1 _ h
      · cases h), fun _ h => nomatch h⟩)) (n := 600) h)
set_option maxRecDepth 100000 in
theorem t_X3_differingLessons (s : ga_M) (r : Int32) (h : f_X3_differingLessons s = some r) : T_X3_differingLessons gaSH s gp_kI (0, [some (.ref 20), none, none], [], gaSH, s, 0, 0) r := (by
    rw [fe_X3_differingLessons] at h
    exact ga_T_go (sp := ga_sp [(4, 0, 0, fun L s => match L with
      | [some (.ref 20), some (.int l1), some (.int l2)] => f_X3_differingLessons_h4 ga_fuel l1 l2 s
      | _ => none)]) (ga_sp_T (List.forall_mem_cons.mpr ⟨fun L S s1 h => (by
      dsimp only at h
      split at h
      · exact t_X3_differingLessons_h4 s ga_fuel _ _  S s1 _ h
      · cases h), fun _ h => nomatch h⟩)) (n := 600) h)
abbrev T_X11_reset {α : Type} (P : ga_S) (K0 : ga_O → Option α) (cfg : ga_C) (r : α) : Prop := ga_T RX11 cX11_reset (ga_lk cl_X11_reset) gaG gaCost (fun _ => []) gaCls 83 0 0 false true true none (fun S _ => S = P) K0 cfg r
set_option maxRecDepth 100000 in
theorem t_X11_reset (s : ga_M) (r : Int32 × ga_M) (h : f_X11_reset s = some r) : T_X11_reset gaSH ga_kI (0, [some (.ref 0), none], [], gaSH, s, 0, 0) r := (by
    rw [fe_X11_reset] at h
    exact ga_T_go (sp := ga_sp []) (ga_sp_T (fun _ h => nomatch h)) (n := 600) h)
abbrev T_X12_differs {α : Type} (P : ga_S) (s0 : ga_M) (K0 : ga_O → Option α) (cfg : ga_C) (r : α) : Prop := ga_T RX12 cX12_differs (ga_lk cl_X12_differs) gaGP gaCost (fun _ => []) gaCls 83 0 0 false true false none (fun S σ => S = P ∧ σ = s0) K0 cfg r
set_option maxRecDepth 100000 in
theorem t_X12_differs (a : Int32) (s : ga_M) (r : Int32) (h : f_X12_differs a s = some r) : T_X12_differs gaSH s gp_kI (0, [some (.ref 72), some (.int a)], [], gaSH, s, 0, 0) r := (by
    rw [fe_X12_differs] at h
    exact ga_T_go (sp := ga_sp []) (ga_sp_T (fun _ h => nomatch h)) (n := 600) h)
abbrev T_X12_differences {α : Type} (P : ga_S) (s0 : ga_M) (K0 : ga_O → Option α) (cfg : ga_C) (r : α) : Prop := ga_T RX12 cX12_differences (ga_lk cl_X12_differences) gaGP gaCost (fun _ => []) gaCls 83 0 0 false true false none (fun S σ => S = P ∧ σ = s0) K0 cfg r
set_option maxRecDepth 100000 in
theorem t_X12_differences_h4 (s0 : ga_M) : ∀ (n : Nat) (l1 : Int32) (l2 : Int32) (S : ga_S) (s : ga_M) (r : Int32), f_X12_differences_h4 n l1 l2 s = some r → T_X12_differences gaSH s0 gp_kI (4, [some (.ref 72), some (.int l1), some (.int l2)], [], S, s, 0, 0) r := by
  intro n
  induction n with
  | zero => intro l1 l2 S s r h; cases h
  | succ n ih => intro l1 l2 S s r h; exact ga_T_S fun hS => (by
    obtain ⟨rfl, rfl⟩ := hS
    exact ga_T_go (sp := ga_sp [(4, 0, 0, fun L s => match L with
      | [some (.ref 72), some (.int l1), some (.int l2)] => f_X12_differences_h4 n l1 l2 s
      | _ => none)]) (ga_sp_T (List.forall_mem_cons.mpr ⟨fun L S s1 h => (by
      dsimp only at h
      split at h
      · exact ih _ _  S s1 _ h
      · cases h), fun _ h => nomatch h⟩)) (n := 600) h)
set_option maxRecDepth 100000 in
theorem t_X12_differences (s : ga_M) (r : Int32) (h : f_X12_differences s = some r) : T_X12_differences gaSH s gp_kI (0, [some (.ref 72), none, none], [], gaSH, s, 0, 0) r := (by
    rw [fe_X12_differences] at h
    exact ga_T_go (sp := ga_sp [(4, 0, 0, fun L s => match L with
      | [some (.ref 72), some (.int l1), some (.int l2)] => f_X12_differences_h4 ga_fuel l1 l2 s
      | _ => none)]) (ga_sp_T (List.forall_mem_cons.mpr ⟨fun L S s1 h => (by
      dsimp only at h
      split at h
      · exact t_X12_differences_h4 s ga_fuel _ _  S s1 _ h
      · cases h), fun _ h => nomatch h⟩)) (n := 600) h)
abbrev T_X12_reset {α : Type} (P : ga_S) (K0 : ga_O → Option α) (cfg : ga_C) (r : α) : Prop := ga_T RX12 cX12_reset (ga_lk cl_X12_reset) gaG gaCost (fun _ => []) gaCls 83 0 0 false true true none (fun S _ => S = P) K0 cfg r
set_option maxRecDepth 100000 in
theorem t_X12_reset_h16 : ∀ (n : Nat) (l1 : Int32) (l2 : Int32) (S : ga_S) (s : ga_M) (r : Int32 × ga_M), f_X12_reset_h16 n l1 l2 s = some r → T_X12_reset gaSH ga_kI (16, [some (.ref 72), some (.int l1), some (.int l2)], [], S, s, 0, 0) r := by
  intro n
  induction n with
  | zero => intro l1 l2 S s r h; cases h
  | succ n ih => intro l1 l2 S s r h; exact ga_T_S fun hS => (by
    cases hS
    exact ga_T_go (sp := ga_sp [(16, 0, 0, fun L s => match L with
      | [some (.ref 72), some (.int l1), some (.int l2)] => f_X12_reset_h16 n l1 l2 s
      | _ => none)]) (ga_sp_T (List.forall_mem_cons.mpr ⟨fun L S s1 h => (by
      dsimp only at h
      split at h
      · exact ih _ _  S s1 _ h
      · cases h), fun _ h => nomatch h⟩)) (n := 600) h)
set_option maxRecDepth 100000 in
theorem t_X12_reset (s : ga_M) (r : Int32 × ga_M) (h : f_X12_reset s = some r) : T_X12_reset gaSH ga_kI (0, [some (.ref 72), none, none], [], gaSH, s, 0, 0) r := (by
    rw [fe_X12_reset] at h
    exact ga_T_go (sp := ga_sp [(16, 0, 0, fun L s => match L with
      | [some (.ref 72), some (.int l1), some (.int l2)] => f_X12_reset_h16 ga_fuel l1 l2 s
      | _ => none)]) (ga_sp_T (List.forall_mem_cons.mpr ⟨fun L S s1 h => (by
      dsimp only at h
      split at h
      · exact t_X12_reset_h16 ga_fuel _ _  S s1 _ h
      · cases h), fun _ h => nomatch h⟩)) (n := 600) h)
abbrev T_X11_whyNotCover {α : Type} (P : ga_S) (s0 : ga_M) (K0 : ga_O → Option α) (cfg : ga_C) (r : α) : Prop := ga_T RX11 cX11_whyNotCover (ga_lk cl_X11_whyNotCover) gaGP gaCost (fun _ => []) gaCls 83 2 12 false true false none (fun S σ => S = P ∧ σ = s0) K0 cfg r
set_option maxRecDepth 100000 in
theorem t_X11_whyNotCover (a : Int32) (b : Int32) (s : ga_M) (r : Int32 ⊕ Nat) (h : f_X11_whyNotCover a b s = some r) : T_X11_whyNotCover gaSH s gp_kIX (0, [some (.ref 0), some (.int a), some (.int b)], [], gaSH, s, 0, 0) r := (by
    rw [fe_X11_whyNotCover] at h
    exact ga_T_go (sp := ga_sp []) (ga_sp_T (fun _ h => nomatch h)) (n := 600) h)
abbrev T_X12_whyNotCover {α : Type} (P : ga_S) (K0 : ga_O → Option α) (cfg : ga_C) (r : α) : Prop := ga_T RX12 cX12_whyNotCover (ga_lk cl_X12_whyNotCover) gaG gaCost (fun _ => []) gaCls 83 0 0 false true true none (fun S _ => S = P) K0 cfg r
set_option maxRecDepth 100000 in
theorem t_X12_whyNotCover (a : Int32) (b : Int32) (s : ga_M) (r : Int32 × ga_M) (h : f_X12_whyNotCover a b s = some r) : T_X12_whyNotCover gaSH ga_kI (0, [some (.ref 72), some (.int a), some (.int b)], [], gaSH, s, 0, 0) r := (by
    rw [fe_X12_whyNotCover] at h
    exact ga_T_go (sp := ga_sp []) (ga_sp_T (fun _ h => nomatch h)) (n := 600) h)
abbrev T_X11_whyNotSupervise {α : Type} (P : ga_S) (s0 : ga_M) (K0 : ga_O → Option α) (cfg : ga_C) (r : α) : Prop := ga_T RX11 cX11_whyNotSupervise (ga_lk cl_X11_whyNotSupervise) gaGP gaCost (fun _ => []) gaCls 83 2 12 false true false none (fun S σ => S = P ∧ σ = s0) K0 cfg r
set_option maxRecDepth 100000 in
theorem t_X11_whyNotSupervise (a : Int32) (b : Int32) (s : ga_M) (r : Int32 ⊕ Nat) (h : f_X11_whyNotSupervise a b s = some r) : T_X11_whyNotSupervise gaSH s gp_kIX (0, [some (.ref 0), some (.int a), some (.int b)], [], gaSH, s, 0, 0) r := (by
    rw [fe_X11_whyNotSupervise] at h
    exact ga_T_go (sp := ga_sp []) (ga_sp_T (fun _ h => nomatch h)) (n := 600) h)
abbrev T_X12_whyNotSupervise {α : Type} (P : ga_S) (K0 : ga_O → Option α) (cfg : ga_C) (r : α) : Prop := ga_T RX12 cX12_whyNotSupervise (ga_lk cl_X12_whyNotSupervise) gaG gaCost (fun _ => []) gaCls 83 0 0 false true true none (fun S _ => S = P) K0 cfg r
set_option maxRecDepth 100000 in
theorem t_X12_whyNotSupervise (a : Int32) (b : Int32) (s : ga_M) (r : Int32 × ga_M) (h : f_X12_whyNotSupervise a b s = some r) : T_X12_whyNotSupervise gaSH ga_kI (0, [some (.ref 72), some (.int a), some (.int b)], [], gaSH, s, 0, 0) r := (by
    rw [fe_X12_whyNotSupervise] at h
    exact ga_T_go (sp := ga_sp []) (ga_sp_T (fun _ h => nomatch h)) (n := 600) h)
