abbrev T_X12_openLesson {α : Type} (P : ga_S) (K0 : ga_O → Option α) (cfg : ga_C) (r : α) : Prop := ga_T RX12 cX12_openLesson (ga_lk cl_X12_openLesson) gaG gaCost (fun _ => []) gaCls 83 0 0 false true true none (fun S _ => S = P) K0 cfg r
set_option maxRecDepth 100000 in
theorem t_X12_openLesson (a : Int32) (s : ga_M) (r : Int32 × ga_M) (h : f_X12_openLesson a s = some r) : T_X12_openLesson gaSH ga_kI (0, [some (.ref 72), some (.int a), none], [], gaSH, s, 0, 0) r := (by
    rw [fe_X12_openLesson] at h
    exact ga_T_go (sp := ga_sp []) (ga_sp_T (fun _ h => nomatch h)) (n := 600) h)
abbrev T_X11_difference {α : Type} (P : ga_S) (s0 : ga_M) (K0 : ga_O → Option α) (cfg : ga_C) (r : α) : Prop := ga_T RX11 cX11_difference (ga_lk cl_X11_difference) gaGP gaCost (fun _ => []) gaCls 83 1 6 false true false none (fun S σ => S = P ∧ σ = s0) K0 cfg r
set_option maxRecDepth 100000 in
theorem t_X11_difference_h4 (s0 : ga_M) : ∀ (n : Nat) (l1 : Int32) (l2 : Int32) (l3 : Int32) (S : ga_S) (s : ga_M) (r : Int32 ⊕ Nat), f_X11_difference_h4 n l1 l2 l3 s = some r → T_X11_difference gaSH s0 gp_kIX (4, [some (.ref 0), some (.int l1), some (.int l2), some (.int l3)], [], S, s, 0, 0) r := by
  intro n
  induction n with
  | zero => intro l1 l2 l3 S s r h; cases h
  | succ n ih => intro l1 l2 l3 S s r h; exact ga_T_S fun hS => (by
    obtain ⟨rfl, rfl⟩ := hS
    exact ga_T_go (sp := ga_sp [(4, 0, 0, fun L s => match L with
      | [some (.ref 0), some (.int l1), some (.int l2), some (.int l3)] => f_X11_difference_h4 n l1 l2 l3 s
      | _ => none)]) (ga_sp_T (List.forall_mem_cons.mpr ⟨fun L S s1 h => (by
      dsimp only at h
      split at h
      · exact ih _ _ _  S s1 _ h
      · cases h), fun _ h => nomatch h⟩)) (n := 600) h)
set_option maxRecDepth 100000 in
theorem t_X11_difference (a : Int32) (s : ga_M) (r : Int32 ⊕ Nat) (h : f_X11_difference a s = some r) : T_X11_difference gaSH s gp_kIX (0, [some (.ref 0), some (.int a), none, none], [], gaSH, s, 0, 0) r := (by
    rw [fe_X11_difference] at h
    exact ga_T_go (sp := ga_sp [(4, 0, 0, fun L s => match L with
      | [some (.ref 0), some (.int l1), some (.int l2), some (.int l3)] => f_X11_difference_h4 ga_fuel l1 l2 l3 s
      | _ => none)]) (ga_sp_T (List.forall_mem_cons.mpr ⟨fun L S s1 h => (by
      dsimp only at h
      split at h
      · exact t_X11_difference_h4 s ga_fuel _ _ _  S s1 _ h
      · cases h), fun _ h => nomatch h⟩)) (n := 600) h)
abbrev T_X12_difference {α : Type} (P : ga_S) (K0 : ga_O → Option α) (cfg : ga_C) (r : α) : Prop := ga_T RX12 cX12_difference (ga_lk cl_X12_difference) gaG gaCost (fun _ => []) gaCls 83 0 0 false true true none (fun S _ => S = P) K0 cfg r
set_option maxRecDepth 100000 in
theorem t_X12_difference (a : Int32) (s : ga_M) (r : Int32 × ga_M) (h : f_X12_difference a s = some r) : T_X12_difference gaSH ga_kI (0, [some (.ref 72), some (.int a), none], [], gaSH, s, 0, 0) r := (by
    rw [fe_X12_difference] at h
    exact ga_T_go (sp := ga_sp []) (ga_sp_T (fun _ h => nomatch h)) (n := 600) h)
abbrev T_X3_windowsOf {α : Type} (P : ga_S) (s0 : ga_M) (K0 : ga_O → Option α) (cfg : ga_C) (r : α) : Prop := ga_T RX3 cX3_windowsOf (ga_lk cl_X3_windowsOf) gaGP gaCost (fun _ => []) gaCls 83 0 0 false true false none (fun S σ => S = P ∧ σ = s0) K0 cfg r
set_option maxRecDepth 100000 in
theorem t_X3_windowsOf_23_h12 (s0 : ga_M) : ∀ (n : Nat) (l2 : Int32) (l3 : Int32) (l4 : Int32) (l5 : Int32) (l6 : Int32) (l7 : Int32) (S : ga_S) (s : ga_M) (r : Int32), f_X3_windowsOf_23_h12 n l2 l3 l4 l5 l6 l7 s = some r → T_X3_windowsOf gaSH s0 gp_kI (12, [some (.ref 20), some (.ref 23), some (.int l2), some (.int l3), some (.int l4), some (.int l5), some (.int l6), some (.int l7)], [], S, s, 0, 0) r := by
  intro n
  induction n with
  | zero => intro l2 l3 l4 l5 l6 l7 S s r h; cases h
  | succ n ih => intro l2 l3 l4 l5 l6 l7 S s r h; exact ga_T_S fun hS => (by
    obtain ⟨rfl, rfl⟩ := hS
    exact ga_T_go (sp := ga_sp [(12, 0, 0, fun L s => match L with
      | [some (.ref 20), some (.ref 23), some (.int l2), some (.int l3), some (.int l4), some (.int l5), some (.int l6), some (.int l7)] => f_X3_windowsOf_23_h12 n l2 l3 l4 l5 l6 l7 s
      | _ => none)]) (ga_sp_T (List.forall_mem_cons.mpr ⟨fun L S s1 h => (by
      dsimp only at h
      split at h
      · exact ih _ _ _ _ _ _  S s1 _ h
      · cases h), fun _ h => nomatch h⟩)) (n := 600) h)
set_option maxRecDepth 100000 in
theorem t_X3_windowsOf_23 (a : Int32) (b : Int32) (s : ga_M) (r : Int32) (h : f_X3_windowsOf_23 a b s = some r) : T_X3_windowsOf gaSH s gp_kI (0, [some (.ref 20), some (.ref 23), some (.int a), some (.int b), none, none, none, none], [], gaSH, s, 0, 0) r := (by
    rw [fe_X3_windowsOf_23] at h
    exact ga_T_go (sp := ga_sp [(12, 0, 0, fun L s => match L with
      | [some (.ref 20), some (.ref 23), some (.int l2), some (.int l3), some (.int l4), some (.int l5), some (.int l6), some (.int l7)] => f_X3_windowsOf_23_h12 ga_fuel l2 l3 l4 l5 l6 l7 s
      | _ => none)]) (ga_sp_T (List.forall_mem_cons.mpr ⟨fun L S s1 h => (by
      dsimp only at h
      split at h
      · exact t_X3_windowsOf_23_h12 s ga_fuel _ _ _ _ _ _  S s1 _ h
      · cases h), fun _ h => nomatch h⟩)) (n := 600) h)
abbrev T_X11_windows {α : Type} (P : ga_S) (s0 : ga_M) (K0 : ga_O → Option α) (cfg : ga_C) (r : α) : Prop := ga_T RX11 cX11_windows (ga_lk cl_X11_windows) gaGP gaCost (fun _ => []) gaCls 83 2 12 false true false none (fun S σ => S = P ∧ σ = s0) K0 cfg r
set_option maxRecDepth 100000 in
theorem t_X11_windows (a : Int32) (b : Int32) (s : ga_M) (r : Int32 ⊕ Nat) (h : f_X11_windows a b s = some r) : T_X11_windows gaSH s gp_kIX (0, [some (.ref 0), some (.int a), some (.int b)], [], gaSH, s, 0, 0) r := (by
    rw [fe_X11_windows] at h
    exact ga_T_go (sp := ga_sp []) (ga_sp_T (fun _ h => nomatch h)) (n := 600) h)
abbrev T_X12_gapsIn {α : Type} (P : ga_S) (s0 : ga_M) (K0 : ga_O → Option α) (cfg : ga_C) (r : α) : Prop := ga_T RX12 cX12_gapsIn (ga_lk cl_X12_gapsIn) gaGP gaCost (fun _ => []) gaCls 83 0 0 false true false none (fun S σ => S = P ∧ σ = s0) K0 cfg r
set_option maxRecDepth 100000 in
theorem t_X12_gapsIn_h4 (s0 : ga_M) : ∀ (n : Nat) (l1 : Int32) (l2 : Int32) (l3 : Int32) (S : ga_S) (s : ga_M) (r : Int32), f_X12_gapsIn_h4 n l1 l2 l3 s = some r → T_X12_gapsIn gaSH s0 gp_kI (4, [some (.ref 72), some (.int l1), some (.int l2), some (.int l3)], [], S, s, 0, 0) r := by
  intro n
  induction n with
  | zero => intro l1 l2 l3 S s r h; cases h
  | succ n ih => intro l1 l2 l3 S s r h; exact ga_T_S fun hS => (by
    obtain ⟨rfl, rfl⟩ := hS
    exact ga_T_go (sp := ga_sp [(4, 0, 0, fun L s => match L with
      | [some (.ref 72), some (.int l1), some (.int l2), some (.int l3)] => f_X12_gapsIn_h4 n l1 l2 l3 s
      | _ => none)]) (ga_sp_T (List.forall_mem_cons.mpr ⟨fun L S s1 h => (by
      dsimp only at h
      split at h
      · exact ih _ _ _  S s1 _ h
      · cases h), fun _ h => nomatch h⟩)) (n := 600) h)
set_option maxRecDepth 100000 in
theorem t_X12_gapsIn (a : Int32) (s : ga_M) (r : Int32) (h : f_X12_gapsIn a s = some r) : T_X12_gapsIn gaSH s gp_kI (0, [some (.ref 72), some (.int a), none, none], [], gaSH, s, 0, 0) r := (by
    rw [fe_X12_gapsIn] at h
    exact ga_T_go (sp := ga_sp [(4, 0, 0, fun L s => match L with
      | [some (.ref 72), some (.int l1), some (.int l2), some (.int l3)] => f_X12_gapsIn_h4 ga_fuel l1 l2 l3 s
      | _ => none)]) (ga_sp_T (List.forall_mem_cons.mpr ⟨fun L S s1 h => (by
      dsimp only at h
      split at h
      · exact t_X12_gapsIn_h4 s ga_fuel _ _ _  S s1 _ h
      · cases h), fun _ h => nomatch h⟩)) (n := 600) h)
abbrev T_X12_windows {α : Type} (P : ga_S) (K0 : ga_O → Option α) (cfg : ga_C) (r : α) : Prop := ga_T RX12 cX12_windows (ga_lk cl_X12_windows) gaG gaCost (fun _ => []) gaCls 83 0 0 false true true none (fun S _ => S = P) K0 cfg r
set_option maxRecDepth 100000 in
theorem t_X12_windows_h36 : ∀ (n : Nat) (l1 : Int32) (l2 : Int32) (l3 : Int32) (l4 : Int32) (S : ga_S) (s : ga_M) (r : Int32 × ga_M), f_X12_windows_h36 n l1 l2 l3 l4 s = some r → T_X12_windows gaSH ga_kI (36, [some (.ref 72), some (.int l1), some (.int l2), some (.int l3), some (.int l4)], [], S, s, 0, 0) r := by
  intro n
  induction n with
  | zero => intro l1 l2 l3 l4 S s r h; cases h
  | succ n ih => intro l1 l2 l3 l4 S s r h; exact ga_T_S fun hS => (by
    cases hS
    exact ga_T_go (sp := ga_sp [(36, 0, 0, fun L s => match L with
      | [some (.ref 72), some (.int l1), some (.int l2), some (.int l3), some (.int l4)] => f_X12_windows_h36 n l1 l2 l3 l4 s
      | _ => none)]) (ga_sp_T (List.forall_mem_cons.mpr ⟨fun L S s1 h => (by
      dsimp only at h
      split at h
      · exact ih _ _ _ _  S s1 _ h
      · cases h), fun _ h => nomatch h⟩)) (n := 600) h)
set_option maxRecDepth 100000 in
theorem t_X12_windows (a : Int32) (b : Int32) (s : ga_M) (r : Int32 × ga_M) (h : f_X12_windows a b s = some r) : T_X12_windows gaSH ga_kI (0, [some (.ref 72), some (.int a), some (.int b), none, none], [], gaSH, s, 0, 0) r := (by
    rw [fe_X12_windows] at h
    exact ga_T_go (sp := ga_sp [(36, 0, 0, fun L s => match L with
      | [some (.ref 72), some (.int l1), some (.int l2), some (.int l3), some (.int l4)] => f_X12_windows_h36 ga_fuel l1 l2 l3 l4 s
      | _ => none)]) (ga_sp_T (List.forall_mem_cons.mpr ⟨fun L S s1 h => (by
      dsimp only at h
      split at h
      · exact t_X12_windows_h36 ga_fuel _ _ _ _  S s1 _ h
      · cases h), fun _ h => nomatch h⟩)) (n := 600) h)
set_option maxRecDepth 100000 in
theorem t_X3_windowsOf_10_h12 (s0 : ga_M) : ∀ (n : Nat) (l2 : Int32) (l3 : Int32) (l4 : Int32) (l5 : Int32) (l6 : Int32) (l7 : Int32) (S : ga_S) (s : ga_M) (r : Int32), f_X3_windowsOf_10_h12 n l2 l3 l4 l5 l6 l7 s = some r → T_X3_windowsOf gaSH s0 gp_kI (12, [some (.ref 20), some (.ref 10), some (.int l2), some (.int l3), some (.int l4), some (.int l5), some (.int l6), some (.int l7)], [], S, s, 0, 0) r := by
  intro n
  induction n with
  | zero => intro l2 l3 l4 l5 l6 l7 S s r h; cases h
  | succ n ih => intro l2 l3 l4 l5 l6 l7 S s r h; exact ga_T_S fun hS => (by
    obtain ⟨rfl, rfl⟩ := hS
    exact ga_T_go (sp := ga_sp [(12, 0, 0, fun L s => match L with
      | [some (.ref 20), some (.ref 10), some (.int l2), some (.int l3), some (.int l4), some (.int l5), some (.int l6), some (.int l7)] => f_X3_windowsOf_10_h12 n l2 l3 l4 l5 l6 l7 s
      | _ => none)]) (ga_sp_T (List.forall_mem_cons.mpr ⟨fun L S s1 h => (by
      dsimp only at h
      split at h
      · exact ih _ _ _ _ _ _  S s1 _ h
      · cases h), fun _ h => nomatch h⟩)) (n := 600) h)
set_option maxRecDepth 100000 in
theorem t_X3_windowsOf_10 (a : Int32) (b : Int32) (s : ga_M) (r : Int32) (h : f_X3_windowsOf_10 a b s = some r) : T_X3_windowsOf gaSH s gp_kI (0, [some (.ref 20), some (.ref 10), some (.int a), some (.int b), none, none, none, none], [], gaSH, s, 0, 0) r := (by
    rw [fe_X3_windowsOf_10] at h
    exact ga_T_go (sp := ga_sp [(12, 0, 0, fun L s => match L with
      | [some (.ref 20), some (.ref 10), some (.int l2), some (.int l3), some (.int l4), some (.int l5), some (.int l6), some (.int l7)] => f_X3_windowsOf_10_h12 ga_fuel l2 l3 l4 l5 l6 l7 s
      | _ => none)]) (ga_sp_T (List.forall_mem_cons.mpr ⟨fun L S s1 h => (by
      dsimp only at h
      split at h
      · exact t_X3_windowsOf_10_h12 s ga_fuel _ _ _ _ _ _  S s1 _ h
      · cases h), fun _ h => nomatch h⟩)) (n := 600) h)
abbrev T_X11_classWindows {α : Type} (P : ga_S) (s0 : ga_M) (K0 : ga_O → Option α) (cfg : ga_C) (r : α) : Prop := ga_T RX11 cX11_classWindows (ga_lk cl_X11_classWindows) gaGP gaCost (fun _ => []) gaCls 83 2 12 false true false none (fun S σ => S = P ∧ σ = s0) K0 cfg r
set_option maxRecDepth 100000 in
theorem t_X11_classWindows (a : Int32) (b : Int32) (s : ga_M) (r : Int32 ⊕ Nat) (h : f_X11_classWindows a b s = some r) : T_X11_classWindows gaSH s gp_kIX (0, [some (.ref 0), some (.int a), some (.int b)], [], gaSH, s, 0, 0) r := (by
    rw [fe_X11_classWindows] at h
    exact ga_T_go (sp := ga_sp []) (ga_sp_T (fun _ h => nomatch h)) (n := 600) h)
abbrev T_X12_classWindows {α : Type} (P : ga_S) (K0 : ga_O → Option α) (cfg : ga_C) (r : α) : Prop := ga_T RX12 cX12_classWindows (ga_lk cl_X12_classWindows) gaG gaCost (fun _ => []) gaCls 83 0 0 false true true none (fun S _ => S = P) K0 cfg r
set_option maxRecDepth 100000 in
theorem t_X12_classWindows_h36 : ∀ (n : Nat) (l1 : Int32) (l2 : Int32) (l3 : Int32) (l4 : Int32) (S : ga_S) (s : ga_M) (r : Int32 × ga_M), f_X12_classWindows_h36 n l1 l2 l3 l4 s = some r → T_X12_classWindows gaSH ga_kI (36, [some (.ref 72), some (.int l1), some (.int l2), some (.int l3), some (.int l4)], [], S, s, 0, 0) r := by
  intro n
  induction n with
  | zero => intro l1 l2 l3 l4 S s r h; cases h
  | succ n ih => intro l1 l2 l3 l4 S s r h; exact ga_T_S fun hS => (by
    cases hS
    exact ga_T_go (sp := ga_sp [(36, 0, 0, fun L s => match L with
      | [some (.ref 72), some (.int l1), some (.int l2), some (.int l3), some (.int l4)] => f_X12_classWindows_h36 n l1 l2 l3 l4 s
      | _ => none)]) (ga_sp_T (List.forall_mem_cons.mpr ⟨fun L S s1 h => (by
      dsimp only at h
      split at h
      · exact ih _ _ _ _  S s1 _ h
      · cases h), fun _ h => nomatch h⟩)) (n := 600) h)
set_option maxRecDepth 100000 in
theorem t_X12_classWindows (a : Int32) (b : Int32) (s : ga_M) (r : Int32 × ga_M) (h : f_X12_classWindows a b s = some r) : T_X12_classWindows gaSH ga_kI (0, [some (.ref 72), some (.int a), some (.int b), none, none], [], gaSH, s, 0, 0) r := (by
    rw [fe_X12_classWindows] at h
    exact ga_T_go (sp := ga_sp [(36, 0, 0, fun L s => match L with
      | [some (.ref 72), some (.int l1), some (.int l2), some (.int l3), some (.int l4)] => f_X12_classWindows_h36 ga_fuel l1 l2 l3 l4 s
      | _ => none)]) (ga_sp_T (List.forall_mem_cons.mpr ⟨fun L S s1 h => (by
      dsimp only at h
      split at h
      · exact t_X12_classWindows_h36 ga_fuel _ _ _ _  S s1 _ h
      · cases h), fun _ h => nomatch h⟩)) (n := 600) h)
abbrev T_J9_max_7cf53 {α : Type} (P : ga_S) (s0 : ga_M) (K0 : ga_O → Option α) (cfg : ga_C) (r : α) : Prop := ga_T RJ9 cJ9_max_7cf53 (ga_lk cl_J9_max_7cf53) gaGP gaCost (fun _ => []) gaCls 83 0 0 false true false none (fun S σ => S = P ∧ σ = s0) K0 cfg r
set_option maxRecDepth 100000 in
theorem t_J9_max_7cf53 (a : Int32) (b : Int32) (s : ga_M) (r : Int32) (h : f_J9_max_7cf53 a b s = some r) : T_J9_max_7cf53 gaSH s gp_kI (0, [some (.int a), some (.int b)], [], gaSH, s, 0, 0) r := (by
    rw [fe_J9_max_7cf53] at h
    exact ga_T_go (sp := ga_sp []) (ga_sp_T (fun _ h => nomatch h)) (n := 600) h)
abbrev T_X11_spread {α : Type} (P : ga_S) (s0 : ga_M) (K0 : ga_O → Option α) (cfg : ga_C) (r : α) : Prop := ga_T RX11 cX11_spread (ga_lk cl_X11_spread) gaGP gaCost (fun _ => []) gaCls 83 0 0 false true false none (fun S σ => S = P ∧ σ = s0) K0 cfg r
set_option maxRecDepth 100000 in
theorem t_X11_spread_h9 (s0 : ga_M) : ∀ (n : Nat) (l1 : Int32) (l2 : Int32) (l3 : Int32) (l4 : Int32) (w0 : Option Value) (S : ga_S) (s : ga_M) (r : Int32), f_X11_spread_h9 n l1 l2 l3 l4 s = some r → T_X11_spread gaSH s0 gp_kI (9, [some (.ref 0), some (.int l1), some (.int l2), some (.int l3), some (.int l4), w0], [], S, s, 0, 0) r := by
  intro n
  induction n with
  | zero => intro l1 l2 l3 l4 w0 S s r h; cases h
  | succ n ih => intro l1 l2 l3 l4 w0 S s r h; exact ga_T_S fun hS => (by
    obtain ⟨rfl, rfl⟩ := hS
    exact ga_T_go (sp := ga_sp [(9, 0, 0, fun L s => match L with
      | [some (.ref 0), some (.int l1), some (.int l2), some (.int l3), some (.int l4), _] => f_X11_spread_h9 n l1 l2 l3 l4 s
      | _ => none)]) (ga_sp_T (List.forall_mem_cons.mpr ⟨fun L S s1 h => (by
      dsimp only at h
      split at h
      · exact ih _ _ _ _ _ S s1 _ h
      · cases h), fun _ h => nomatch h⟩)) (n := 600) h)
set_option maxRecDepth 100000 in
theorem t_X11_spread (s : ga_M) (r : Int32) (h : f_X11_spread s = some r) : T_X11_spread gaSH s gp_kI (0, [some (.ref 0), none, none, none, none, none], [], gaSH, s, 0, 0) r := (by
    rw [fe_X11_spread] at h
    exact ga_T_go (sp := ga_sp [(9, 0, 0, fun L s => match L with
      | [some (.ref 0), some (.int l1), some (.int l2), some (.int l3), some (.int l4), _] => f_X11_spread_h9 ga_fuel l1 l2 l3 l4 s
      | _ => none)]) (ga_sp_T (List.forall_mem_cons.mpr ⟨fun L S s1 h => (by
      dsimp only at h
      split at h
      · exact t_X11_spread_h9 s ga_fuel _ _ _ _ _ S s1 _ h
      · cases h), fun _ h => nomatch h⟩)) (n := 600) h)
abbrev T_X12_spread {α : Type} (P : ga_S) (K0 : ga_O → Option α) (cfg : ga_C) (r : α) : Prop := ga_T RX12 cX12_spread (ga_lk cl_X12_spread) gaG gaCost (fun _ => []) gaCls 83 0 0 false true true none (fun S _ => S = P) K0 cfg r
set_option maxRecDepth 100000 in
theorem t_X12_spread_h11 : ∀ (n : Nat) (l1 : Int32) (l2 : Int32) (l3 : Int32) (S : ga_S) (s : ga_M) (r : Int32 × ga_M), f_X12_spread_h11 n l1 l2 l3 s = some r → T_X12_spread gaSH ga_kI (11, [some (.ref 72), some (.int l1), some (.int l2), some (.int l3)], [], S, s, 0, 0) r := by
  intro n
  induction n with
  | zero => intro l1 l2 l3 S s r h; cases h
  | succ n ih => intro l1 l2 l3 S s r h; exact ga_T_S fun hS => (by
    cases hS
    exact ga_T_go (sp := ga_sp [(11, 0, 0, fun L s => match L with
      | [some (.ref 72), some (.int l1), some (.int l2), some (.int l3)] => f_X12_spread_h11 n l1 l2 l3 s
      | _ => none)]) (ga_sp_T (List.forall_mem_cons.mpr ⟨fun L S s1 h => (by
      dsimp only at h
      split at h
      · exact ih _ _ _  S s1 _ h
      · cases h), fun _ h => nomatch h⟩)) (n := 600) h)
set_option maxRecDepth 100000 in
theorem t_X12_spread (s : ga_M) (r : Int32 × ga_M) (h : f_X12_spread s = some r) : T_X12_spread gaSH ga_kI (0, [some (.ref 72), none, none, none], [], gaSH, s, 0, 0) r := (by
    rw [fe_X12_spread] at h
    exact ga_T_go (sp := ga_sp [(11, 0, 0, fun L s => match L with
      | [some (.ref 72), some (.int l1), some (.int l2), some (.int l3)] => f_X12_spread_h11 ga_fuel l1 l2 l3 s
      | _ => none)]) (ga_sp_T (List.forall_mem_cons.mpr ⟨fun L S s1 h => (by
      dsimp only at h
      split at h
      · exact t_X12_spread_h11 ga_fuel _ _ _  S s1 _ h
      · cases h), fun _ h => nomatch h⟩)) (n := 600) h)
abbrev T_X3_taughtLessons {α : Type} (P : ga_S) (s0 : ga_M) (K0 : ga_O → Option α) (cfg : ga_C) (r : α) : Prop := ga_T RX3 cX3_taughtLessons (ga_lk cl_X3_taughtLessons) gaGP gaCost (fun _ => []) gaCls 83 0 0 false true false none (fun S σ => S = P ∧ σ = s0) K0 cfg r
set_option maxRecDepth 100000 in
theorem t_X3_taughtLessons (s : ga_M) (r : Int32) (h : f_X3_taughtLessons s = some r) : T_X3_taughtLessons gaSH s gp_kI (0, [some (.ref 20)], [], gaSH, s, 0, 0) r := (by
    rw [fe_X3_taughtLessons] at h
    exact ga_T_go (sp := ga_sp []) (ga_sp_T (fun _ h => nomatch h)) (n := 600) h)
abbrev T_X11_taughtShare {α : Type} (P : ga_S) (s0 : ga_M) (K0 : ga_O → Option α) (cfg : ga_C) (r : α) : Prop := ga_T RX11 cX11_taughtShare (ga_lk cl_X11_taughtShare) gaGP gaCost (fun _ => []) gaCls 83 0 0 false true false none (fun S σ => S = P ∧ σ = s0) K0 cfg r
set_option maxRecDepth 100000 in
theorem t_X11_taughtShare (s : ga_M) (r : UInt64) (h : f_X11_taughtShare s = some r) : T_X11_taughtShare gaSH s gp_kD (0, [some (.ref 0)], [], gaSH, s, 0, 0) r := (by
    rw [fe_X11_taughtShare] at h
    exact ga_T_go (sp := ga_sp []) (ga_sp_T (fun _ h => nomatch h)) (n := 600) h)
abbrev T_X12_taughtShare {α : Type} (P : ga_S) (K0 : ga_O → Option α) (cfg : ga_C) (r : α) : Prop := ga_T RX12 cX12_taughtShare (ga_lk cl_X12_taughtShare) gaG gaCost (fun _ => []) gaCls 83 0 0 false true true none (fun S _ => S = P) K0 cfg r
set_option maxRecDepth 100000 in
theorem t_X12_taughtShare (s : ga_M) (r : UInt64 × ga_M) (h : f_X12_taughtShare s = some r) : T_X12_taughtShare gaSH ga_kD (0, [some (.ref 72), none], [], gaSH, s, 0, 0) r := (by
    rw [fe_X12_taughtShare] at h
    exact ga_T_go (sp := ga_sp []) (ga_sp_T (fun _ h => nomatch h)) (n := 600) h)
abbrev T_X5_append {α : Type} (P : ga_S) (K0 : ga_O → Option α) (cfg : ga_C) (r : α) : Prop := ga_T RX5 cX5_append (ga_lk cl_X5_append) gaG gaCost (fun _ => []) gaCls 83 0 0 false true true none (fun S _ => S = P) K0 cfg r
set_option maxRecDepth 100000 in
theorem t_X5_append (a : Int32) (s : ga_M) (r : ga_M) (h : f_X5_append a s = some r) : T_X5_append gaSH ga_kV (0, [some (.ref 69), some (.int a)], [], gaSH, s, 0, 0) r := (by
    rw [fe_X5_append] at h
    exact ga_T_go (sp := ga_sp []) (ga_sp_T (fun _ h => nomatch h)) (n := 600) h)
abbrev T_X5_writeLesson {α : Type} (P : ga_S) (K0 : ga_O → Option α) (cfg : ga_C) (r : α) : Prop := ga_T RX5 cX5_writeLesson (ga_lk cl_X5_writeLesson) gaG gaCost (fun _ => []) gaCls 83 0 0 false true true none (fun S _ => S = P) K0 cfg r
set_option maxRecDepth 100000 in
theorem t_X5_writeLesson (a : Int32) (s : ga_M) (r : ga_M) (h : f_X5_writeLesson a s = some r) : T_X5_writeLesson gaSH ga_kV (0, [some (.ref 69), some (.int a)], [], gaSH, s, 0, 0) r := (by
    rw [fe_X5_writeLesson] at h
    exact ga_T_go (sp := ga_sp []) (ga_sp_T (fun _ h => nomatch h)) (n := 600) h)
abbrev T_X5_write {α : Type} (P : ga_S) (K0 : ga_O → Option α) (cfg : ga_C) (r : α) : Prop := ga_T RX5 cX5_write (ga_lk cl_X5_write) gaG gaCost (fun _ => []) gaCls 83 0 0 false true true none (fun S _ => S = P) K0 cfg r
set_option maxRecDepth 100000 in
theorem t_X5_write_h20 {go7 : Int32 → Int32 → ga_M → Option (ga_M)} (hgo7 : ∀ (l1 : Int32) (l2 : Int32) (w0 : Option Value) (S : ga_S) (s : ga_M) (r : ga_M), go7 l1 l2 s = some r → T_X5_write gaSH ga_kV (7, [some (.ref 69), some (.int l1), some (.int l2), w0], [], S, s, 0, 0) r) : ∀ (n : Nat) (l1 : Int32) (l2 : Int32) (l3 : Int32) (S : ga_S) (s : ga_M) (r : ga_M), f_X5_write_h20 go7 n l1 l2 l3 s = some r → T_X5_write gaSH ga_kV (20, [some (.ref 69), some (.int l1), some (.int l2), some (.int l3)], [], S, s, 0, 0) r := by
  intro n
  induction n with
  | zero => intro l1 l2 l3 S s r h; cases h
  | succ n ih => intro l1 l2 l3 S s r h; exact ga_T_S fun hS => (by
    cases hS
    exact ga_T_go (sp := ga_sp [(7, 0, 0, fun L s => match L with
      | [some (.ref 69), some (.int l1), some (.int l2), _] => go7 l1 l2 s
      | _ => none), (20, 0, 0, fun L s => match L with
      | [some (.ref 69), some (.int l1), some (.int l2), some (.int l3)] => f_X5_write_h20 go7 n l1 l2 l3 s
      | _ => none)]) (ga_sp_T (List.forall_mem_cons.mpr ⟨fun L S s1 h => (by
      dsimp only at h
      split at h
      · exact hgo7 _ _ _ S s1 _ h
      · cases h), List.forall_mem_cons.mpr ⟨fun L S s1 h => (by
      dsimp only at h
      split at h
      · exact ih _ _ _  S s1 _ h
      · cases h), fun _ h => nomatch h⟩⟩)) (n := 600) h)
set_option maxRecDepth 100000 in
theorem t_X5_write_h7 : ∀ (n : Nat) (l1 : Int32) (l2 : Int32) (w0 : Option Value) (S : ga_S) (s : ga_M) (r : ga_M), f_X5_write_h7 n l1 l2 s = some r → T_X5_write gaSH ga_kV (7, [some (.ref 69), some (.int l1), some (.int l2), w0], [], S, s, 0, 0) r := by
  intro n
  induction n with
  | zero => intro l1 l2 w0 S s r h; cases h
  | succ n ih => intro l1 l2 w0 S s r h; exact ga_T_S fun hS => (by
    cases hS
    exact ga_T_go (sp := ga_sp [(20, 0, 0, fun L s => match L with
      | [some (.ref 69), some (.int l1), some (.int l2), some (.int l3)] => f_X5_write_h20 (f_X5_write_h7 n) ga_fuel l1 l2 l3 s
      | _ => none)]) (ga_sp_T (List.forall_mem_cons.mpr ⟨fun L S s1 h => (by
      dsimp only at h
      split at h
      · exact t_X5_write_h20 ih ga_fuel _ _ _  S s1 _ h
      · cases h), fun _ h => nomatch h⟩)) (n := 600) h)
set_option maxRecDepth 100000 in
theorem t_X5_write (a : Int32) (s : ga_M) (r : ga_M) (h : f_X5_write a s = some r) : T_X5_write gaSH ga_kV (0, [some (.ref 69), some (.int a), none, none], [], gaSH, s, 0, 0) r := (by
    rw [fe_X5_write] at h
    exact ga_T_go (sp := ga_sp [(7, 0, 0, fun L s => match L with
      | [some (.ref 69), some (.int l1), some (.int l2), _] => f_X5_write_h7 ga_fuel l1 l2 s
      | _ => none)]) (ga_sp_T (List.forall_mem_cons.mpr ⟨fun L S s1 h => (by
      dsimp only at h
      split at h
      · exact t_X5_write_h7 ga_fuel _ _ _ S s1 _ h
      · cases h), fun _ h => nomatch h⟩)) (n := 600) h)
abbrev T_X11_writeReport {α : Type} (P : ga_S) (K0 : ga_O → Option α) (cfg : ga_C) (r : α) : Prop := ga_T RX11 cX11_writeReport (ga_lk cl_X11_writeReport) gaG gaCost (fun _ => []) gaCls 83 1 6 false true true none (fun S _ => S = P) K0 cfg r
set_option maxRecDepth 100000 in
theorem t_X11_writeReport (a : Int32) (s : ga_M) (r : (Int32 ⊕ Nat) × ga_M) (h : f_X11_writeReport a s = some r) : T_X11_writeReport gaSH ga_kIX (0, [some (.ref 0), some (.int a)], [], gaSH, s, 0, 0) r := (by
    rw [fe_X11_writeReport] at h
    exact ga_T_go (sp := ga_sp []) (ga_sp_T (fun _ h => nomatch h)) (n := 600) h)
abbrev T_X12_print {α : Type} (P : ga_S) (K0 : ga_O → Option α) (cfg : ga_C) (r : α) : Prop := ga_T RX12 cX12_print (ga_lk cl_X12_print) gaG gaCost (fun _ => []) gaCls 83 0 0 false true true none (fun S _ => S = P) K0 cfg r
set_option maxRecDepth 100000 in
theorem t_X12_print (a : Int32) (s : ga_M) (r : ga_M) (h : f_X12_print a s = some r) : T_X12_print gaSH ga_kV (0, [some (.ref 72), some (.int a)], [], gaSH, s, 0, 0) r := (by
    rw [fe_X12_print] at h
    exact ga_T_go (sp := ga_sp []) (ga_sp_T (fun _ h => nomatch h)) (n := 600) h)
abbrev T_X12_printLesson {α : Type} (P : ga_S) (K0 : ga_O → Option α) (cfg : ga_C) (r : α) : Prop := ga_T RX12 cX12_printLesson (ga_lk cl_X12_printLesson) gaG gaCost (fun _ => []) gaCls 83 0 0 false true true none (fun S _ => S = P) K0 cfg r
set_option maxRecDepth 100000 in
theorem t_X12_printLesson (a : Int32) (s : ga_M) (r : ga_M) (h : f_X12_printLesson a s = some r) : T_X12_printLesson gaSH ga_kV (0, [some (.ref 72), some (.int a)], [], gaSH, s, 0, 0) r := (by
    rw [fe_X12_printLesson] at h
    exact ga_T_go (sp := ga_sp []) (ga_sp_T (fun _ h => nomatch h)) (n := 600) h)
abbrev T_X12_writeReport {α : Type} (P : ga_S) (K0 : ga_O → Option α) (cfg : ga_C) (r : α) : Prop := ga_T RX12 cX12_writeReport (ga_lk cl_X12_writeReport) gaG gaCost (fun _ => []) gaCls 83 0 0 false true true none (fun S _ => S = P) K0 cfg r
set_option maxRecDepth 100000 in
theorem t_X12_writeReport_h30 : ∀ (n : Nat) (l1 : Int32) (l2 : Int32) (S : ga_S) (s : ga_M) (r : Int32 × ga_M), f_X12_writeReport_h30 n l1 l2 s = some r → T_X12_writeReport gaSH ga_kI (30, [some (.ref 72), some (.int l1), some (.int l2)], [], S, s, 0, 0) r := by
  intro n
  induction n with
  | zero => intro l1 l2 S s r h; cases h
  | succ n ih => intro l1 l2 S s r h; exact ga_T_S fun hS => (by
    cases hS
    exact ga_T_go (sp := ga_sp [(30, 0, 0, fun L s => match L with
      | [some (.ref 72), some (.int l1), some (.int l2)] => f_X12_writeReport_h30 n l1 l2 s
      | _ => none)]) (ga_sp_T (List.forall_mem_cons.mpr ⟨fun L S s1 h => (by
      dsimp only at h
      split at h
      · exact ih _ _  S s1 _ h
      · cases h), fun _ h => nomatch h⟩)) (n := 600) h)
set_option maxRecDepth 100000 in
theorem t_X12_writeReport (a : Int32) (s : ga_M) (r : Int32 × ga_M) (h : f_X12_writeReport a s = some r) : T_X12_writeReport gaSH ga_kI (0, [some (.ref 72), some (.int a), none], [], gaSH, s, 0, 0) r := (by
    rw [fe_X12_writeReport] at h
    exact ga_T_go (sp := ga_sp [(30, 0, 0, fun L s => match L with
      | [some (.ref 72), some (.int l1), some (.int l2)] => f_X12_writeReport_h30 ga_fuel l1 l2 s
      | _ => none)]) (ga_sp_T (List.forall_mem_cons.mpr ⟨fun L S s1 h => (by
      dsimp only at h
      split at h
      · exact t_X12_writeReport_h30 ga_fuel _ _  S s1 _ h
      · cases h), fun _ h => nomatch h⟩)) (n := 600) h)
abbrev T_X11_reportByte {α : Type} (P : ga_S) (s0 : ga_M) (K0 : ga_O → Option α) (cfg : ga_C) (r : α) : Prop := ga_T RX11 cX11_reportByte (ga_lk cl_X11_reportByte) gaGP gaCost (fun _ => []) gaCls 83 1 6 false true false none (fun S σ => S = P ∧ σ = s0) K0 cfg r
set_option maxRecDepth 100000 in
theorem t_X11_reportByte (a : Int32) (s : ga_M) (r : Int32 ⊕ Nat) (h : f_X11_reportByte a s = some r) : T_X11_reportByte gaSH s gp_kIX (0, [some (.ref 0), some (.int a)], [], gaSH, s, 0, 0) r := (by
    rw [fe_X11_reportByte] at h
    exact ga_T_go (sp := ga_sp []) (ga_sp_T (fun _ h => nomatch h)) (n := 600) h)
abbrev T_X12_reportByte {α : Type} (P : ga_S) (K0 : ga_O → Option α) (cfg : ga_C) (r : α) : Prop := ga_T RX12 cX12_reportByte (ga_lk cl_X12_reportByte) gaG gaCost (fun _ => []) gaCls 83 0 0 false true true none (fun S _ => S = P) K0 cfg r
set_option maxRecDepth 100000 in
theorem t_X12_reportByte (a : Int32) (s : ga_M) (r : Int32 × ga_M) (h : f_X12_reportByte a s = some r) : T_X12_reportByte gaSH ga_kI (0, [some (.ref 72), some (.int a)], [], gaSH, s, 0, 0) r := (by
    rw [fe_X12_reportByte] at h
    exact ga_T_go (sp := ga_sp []) (ga_sp_T (fun _ h => nomatch h)) (n := 600) h)
abbrev T_X1_restoreLatest {α : Type} (P : ga_S) (K0 : ga_O → Option α) (cfg : ga_C) (r : α) : Prop := ga_T RX1 cX1_restoreLatest (ga_lk cl_X1_restoreLatest) gaG gaCost (fun _ => []) gaCls 83 0 0 false true true none (fun S _ => S = P) K0 cfg r
set_option maxRecDepth 100000 in
theorem t_X1_restoreLatest (s : ga_M) (r : ga_M) (h : f_X1_restoreLatest s = some r) : T_X1_restoreLatest gaSH ga_kV (0, [some (.ref 42)], [], gaSH, s, 0, 0) r := (by
    rw [fe_X1_restoreLatest] at h
    exact ga_T_go (sp := ga_sp []) (ga_sp_T (fun _ h => nomatch h)) (n := 600) h)
abbrev T_X11_undo {α : Type} (P : ga_S) (K0 : ga_O → Option α) (cfg : ga_C) (r : α) : Prop := ga_T RX11 cX11_undo (ga_lk cl_X11_undo) gaG gaCost (fun _ => []) gaCls 83 1 6 false true true none (fun S _ => S = P) K0 cfg r
set_option maxRecDepth 100000 in
theorem t_X11_undo (s : ga_M) (r : (Int32 ⊕ Nat) × ga_M) (h : f_X11_undo s = some r) : T_X11_undo gaSH ga_kIX (0, [some (.ref 0)], [], gaSH, s, 0, 0) r := (by
    rw [fe_X11_undo] at h
    exact ga_T_go (sp := ga_sp []) (ga_sp_T (fun _ h => nomatch h)) (n := 600) h)
abbrev T_X12_undo {α : Type} (P : ga_S) (K0 : ga_O → Option α) (cfg : ga_C) (r : α) : Prop := ga_T RX12 cX12_undo (ga_lk cl_X12_undo) gaG gaCost (fun _ => []) gaCls 83 0 0 false true true none (fun S _ => S = P) K0 cfg r
set_option maxRecDepth 100000 in
theorem t_X12_undo_h30 : ∀ (n : Nat) (l1 : Int32) (S : ga_S) (s : ga_M) (r : Int32 × ga_M), f_X12_undo_h30 n l1 s = some r → T_X12_undo gaSH ga_kI (30, [some (.ref 72), some (.int l1)], [], S, s, 0, 0) r := by
  intro n
  induction n with
  | zero => intro l1 S s r h; cases h
  | succ n ih => intro l1 S s r h; exact ga_T_S fun hS => (by
    cases hS
    exact ga_T_go (sp := ga_sp [(30, 0, 0, fun L s => match L with
      | [some (.ref 72), some (.int l1)] => f_X12_undo_h30 n l1 s
      | _ => none)]) (ga_sp_T (List.forall_mem_cons.mpr ⟨fun L S s1 h => (by
      dsimp only at h
      split at h
      · exact ih _  S s1 _ h
      · cases h), fun _ h => nomatch h⟩)) (n := 600) h)
set_option maxRecDepth 100000 in
theorem t_X12_undo (s : ga_M) (r : Int32 × ga_M) (h : f_X12_undo s = some r) : T_X12_undo gaSH ga_kI (0, [some (.ref 72), none], [], gaSH, s, 0, 0) r := (by
    rw [fe_X12_undo] at h
    exact ga_T_go (sp := ga_sp [(30, 0, 0, fun L s => match L with
      | [some (.ref 72), some (.int l1)] => f_X12_undo_h30 ga_fuel l1 s
      | _ => none)]) (ga_sp_T (List.forall_mem_cons.mpr ⟨fun L S s1 h => (by
      dsimp only at h
      split at h
      · exact t_X12_undo_h30 ga_fuel _  S s1 _ h
      · cases h), fun _ h => nomatch h⟩)) (n := 600) h)
abbrev T_X11_undoDepth {α : Type} (P : ga_S) (s0 : ga_M) (K0 : ga_O → Option α) (cfg : ga_C) (r : α) : Prop := ga_T RX11 cX11_undoDepth (ga_lk cl_X11_undoDepth) gaGP gaCost (fun _ => []) gaCls 83 0 0 false true false none (fun S σ => S = P ∧ σ = s0) K0 cfg r
set_option maxRecDepth 100000 in
theorem t_X11_undoDepth (s : ga_M) (r : Int32) (h : f_X11_undoDepth s = some r) : T_X11_undoDepth gaSH s gp_kI (0, [some (.ref 0)], [], gaSH, s, 0, 0) r := (by
    rw [fe_X11_undoDepth] at h
    exact ga_T_go (sp := ga_sp []) (ga_sp_T (fun _ h => nomatch h)) (n := 600) h)
abbrev T_X12_undoDepth {α : Type} (P : ga_S) (K0 : ga_O → Option α) (cfg : ga_C) (r : α) : Prop := ga_T RX12 cX12_undoDepth (ga_lk cl_X12_undoDepth) gaG gaCost (fun _ => []) gaCls 83 0 0 false true true none (fun S _ => S = P) K0 cfg r
set_option maxRecDepth 100000 in
theorem t_X12_undoDepth (s : ga_M) (r : Int32 × ga_M) (h : f_X12_undoDepth s = some r) : T_X12_undoDepth gaSH ga_kI (0, [some (.ref 72)], [], gaSH, s, 0, 0) r := (by
    rw [fe_X12_undoDepth] at h
    exact ga_T_go (sp := ga_sp []) (ga_sp_T (fun _ h => nomatch h)) (n := 600) h)
abbrev T_X12_thrown {α : Type} (P : ga_S) (s0 : ga_M) (K0 : ga_O → Option α) (cfg : ga_C) (r : α) : Prop := ga_T RX12 cX12_thrown (ga_lk cl_X12_thrown) gaGP gaCost (fun _ => []) gaCls 83 0 0 false true false none (fun S σ => S = P ∧ σ = s0) K0 cfg r
set_option maxRecDepth 100000 in
theorem t_X12_thrown (s : ga_M) (r : Int32) (h : f_X12_thrown s = some r) : T_X12_thrown gaSH s gp_kI (0, [some (.ref 72)], [], gaSH, s, 0, 0) r := (by
    rw [fe_X12_thrown] at h
    exact ga_T_go (sp := ga_sp []) (ga_sp_T (fun _ h => nomatch h)) (n := 600) h)
set_option maxRecDepth 100000 in
theorem t_X7_becomeEmpty (s : ga_M) (r : ga_M) (h : f_X7_becomeEmpty s = some r) : T_X7_becomeEmpty gaSH ga_kV (0, [some (.ref 1)], [], gaSH, s, 0, 0) r := (by
    rw [fe_X7_becomeEmpty] at h
    exact ga_T_go (sp := ga_sp []) (ga_sp_T (fun _ h => nomatch h)) (n := 600) h)
