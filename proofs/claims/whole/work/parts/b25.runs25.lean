abbrev T_X12_goes1 {α : Type} (P : ga_S) (K0 : ga_O → Option α) (cfg : ga_C) (r : α) : Prop := ga_T RX12 cX12_goes (ga_lk cl_X12_goes1) gaG gaCost (fun _ => []) gaCls 83 0 0 false true true none (fun S _ => S = P) K0 cfg r
set_option maxRecDepth 100000 in
theorem t_X12_goes1_h167 {go3 : Int32 → Int32 → Int32 → Int32 → Int32 → ga_M → Option (ga_M)} (hgo3 : ∀ (l1 : Int32) (l2 : Int32) (l3 : Int32) (l4 : Int32) (l5 : Int32) (w0 : Option Value) (w1 : Option Value) (w2 : Option Value) (S : ga_S) (s : ga_M) (r : ga_M), go3 l1 l2 l3 l4 l5 s = some r → T_X12_goes1 gaSH ga_kV (3, [some (.ref 72), some (.int l1), some (.int l2), some (.int l3), some (.int l4), some (.int l5), w0, w1, w2], [], S, s, 0, 0) r) : ∀ (n : Nat) (l1 : Int32) (l2 : Int32) (l3 : Int32) (l4 : Int32) (l5 : Int32) (l8 : Int32) (w0 : Option Value) (w1 : Option Value) (S : ga_S) (s : ga_M) (r : ga_M), f_X12_goes1_h167 go3 n l1 l2 l3 l4 l5 l8 s = some r → T_X12_goes1 gaSH ga_kV (167, [some (.ref 72), some (.int l1), some (.int l2), some (.int l3), some (.int l4), some (.int l5), w0, w1, some (.int l8)], [], S, s, 0, 0) r := by
  intro n
  induction n with
  | zero => intro l1 l2 l3 l4 l5 l8 w0 w1 S s r h; cases h
  | succ n ih => intro l1 l2 l3 l4 l5 l8 w0 w1 S s r h; exact ga_T_S fun hS => (by
    cases hS
    exact ga_T_go (sp := ga_sp [(3, 0, 0, fun L s => match L with
      | [some (.ref 72), some (.int l1), some (.int l2), some (.int l3), some (.int l4), some (.int l5), _, _, _] => go3 l1 l2 l3 l4 l5 s
      | _ => none), (167, 0, 0, fun L s => match L with
      | [some (.ref 72), some (.int l1), some (.int l2), some (.int l3), some (.int l4), some (.int l5), _, _, some (.int l8)] => f_X12_goes1_h167 go3 n l1 l2 l3 l4 l5 l8 s
      | _ => none)]) (ga_sp_T (List.forall_mem_cons.mpr ⟨fun L S s1 h => (by
      dsimp only at h
      split at h
      · exact hgo3 _ _ _ _ _ _ _ _ S s1 _ h
      · cases h), List.forall_mem_cons.mpr ⟨fun L S s1 h => (by
      dsimp only at h
      split at h
      · exact ih _ _ _ _ _ _ _ _ S s1 _ h
      · cases h), fun _ h => nomatch h⟩⟩)) (n := 600) h)
set_option maxRecDepth 100000 in
theorem t_X12_goes1_h3 : ∀ (n : Nat) (l1 : Int32) (l2 : Int32) (l3 : Int32) (l4 : Int32) (l5 : Int32) (w0 : Option Value) (w1 : Option Value) (w2 : Option Value) (S : ga_S) (s : ga_M) (r : ga_M), f_X12_goes1_h3 n l1 l2 l3 l4 l5 s = some r → T_X12_goes1 gaSH ga_kV (3, [some (.ref 72), some (.int l1), some (.int l2), some (.int l3), some (.int l4), some (.int l5), w0, w1, w2], [], S, s, 0, 0) r := by
  intro n
  induction n with
  | zero => intro l1 l2 l3 l4 l5 w0 w1 w2 S s r h; cases h
  | succ n ih => intro l1 l2 l3 l4 l5 w0 w1 w2 S s r h; exact ga_T_S fun hS => (by
    cases hS
    exact ga_T_go (sp := ga_sp [(3, 0, 0, fun L s => match L with
      | [some (.ref 72), some (.int l1), some (.int l2), some (.int l3), some (.int l4), some (.int l5), _, _, _] => f_X12_goes1_h3 n l1 l2 l3 l4 l5 s
      | _ => none), (167, 0, 0, fun L s => match L with
      | [some (.ref 72), some (.int l1), some (.int l2), some (.int l3), some (.int l4), some (.int l5), _, _, some (.int l8)] => f_X12_goes1_h167 (f_X12_goes1_h3 n) ga_fuel l1 l2 l3 l4 l5 l8 s
      | _ => none)]) (ga_sp_T (List.forall_mem_cons.mpr ⟨fun L S s1 h => (by
      dsimp only at h
      split at h
      · exact ih _ _ _ _ _ _ _ _ S s1 _ h
      · cases h), List.forall_mem_cons.mpr ⟨fun L S s1 h => (by
      dsimp only at h
      split at h
      · exact t_X12_goes1_h167 ih ga_fuel _ _ _ _ _ _ _ _ S s1 _ h
      · cases h), fun _ h => nomatch h⟩⟩)) (n := 600) h)
set_option maxRecDepth 100000 in
theorem t_X12_goes1 (a : Int32) (b : Int32) (c : Int32) (d : Int32) (s : ga_M) (r : ga_M) (h : f_X12_goes1 a b c d s = some r) : T_X12_goes1 gaSH ga_kV (0, [some (.ref 72), some (.int a), some (.int b), some (.int c), some (.int d), none, none, none, none], [], gaSH, s, 0, 0) r := (by
    rw [fe_X12_goes1] at h
    exact ga_T_go (sp := ga_sp [(3, 0, 0, fun L s => match L with
      | [some (.ref 72), some (.int l1), some (.int l2), some (.int l3), some (.int l4), some (.int l5), _, _, _] => f_X12_goes1_h3 ga_fuel l1 l2 l3 l4 l5 s
      | _ => none)]) (ga_sp_T (List.forall_mem_cons.mpr ⟨fun L S s1 h => (by
      dsimp only at h
      split at h
      · exact t_X12_goes1_h3 ga_fuel _ _ _ _ _ _ _ _ S s1 _ h
      · cases h), fun _ h => nomatch h⟩)) (n := 600) h)
abbrev T_X12_goes0 {α : Type} (P : ga_S) (K0 : ga_O → Option α) (cfg : ga_C) (r : α) : Prop := ga_T RX12 cX12_goes (ga_lk cl_X12_goes0) gaG gaCost (fun _ => []) gaCls 83 0 0 false true true none (fun S _ => S = P) K0 cfg r
set_option maxRecDepth 100000 in
theorem t_X12_goes0_h167 {go3 : Int32 → Int32 → Int32 → Int32 → Int32 → ga_M → Option (ga_M)} (hgo3 : ∀ (l1 : Int32) (l2 : Int32) (l3 : Int32) (l4 : Int32) (l5 : Int32) (w0 : Option Value) (w1 : Option Value) (w2 : Option Value) (S : ga_S) (s : ga_M) (r : ga_M), go3 l1 l2 l3 l4 l5 s = some r → T_X12_goes0 gaSH ga_kV (3, [some (.ref 72), some (.int l1), some (.int l2), some (.int l3), some (.int l4), some (.int l5), w0, w1, w2], [], S, s, 0, 0) r) : ∀ (n : Nat) (l1 : Int32) (l2 : Int32) (l3 : Int32) (l4 : Int32) (l5 : Int32) (l8 : Int32) (w0 : Option Value) (w1 : Option Value) (S : ga_S) (s : ga_M) (r : ga_M), f_X12_goes0_h167 go3 n l1 l2 l3 l4 l5 l8 s = some r → T_X12_goes0 gaSH ga_kV (167, [some (.ref 72), some (.int l1), some (.int l2), some (.int l3), some (.int l4), some (.int l5), w0, w1, some (.int l8)], [], S, s, 0, 0) r := by
  intro n
  induction n with
  | zero => intro l1 l2 l3 l4 l5 l8 w0 w1 S s r h; cases h
  | succ n ih => intro l1 l2 l3 l4 l5 l8 w0 w1 S s r h; exact ga_T_S fun hS => (by
    cases hS
    exact ga_T_go (sp := ga_sp [(3, 0, 0, fun L s => match L with
      | [some (.ref 72), some (.int l1), some (.int l2), some (.int l3), some (.int l4), some (.int l5), _, _, _] => go3 l1 l2 l3 l4 l5 s
      | _ => none), (167, 0, 0, fun L s => match L with
      | [some (.ref 72), some (.int l1), some (.int l2), some (.int l3), some (.int l4), some (.int l5), _, _, some (.int l8)] => f_X12_goes0_h167 go3 n l1 l2 l3 l4 l5 l8 s
      | _ => none)]) (ga_sp_T (List.forall_mem_cons.mpr ⟨fun L S s1 h => (by
      dsimp only at h
      split at h
      · exact hgo3 _ _ _ _ _ _ _ _ S s1 _ h
      · cases h), List.forall_mem_cons.mpr ⟨fun L S s1 h => (by
      dsimp only at h
      split at h
      · exact ih _ _ _ _ _ _ _ _ S s1 _ h
      · cases h), fun _ h => nomatch h⟩⟩)) (n := 600) h)
set_option maxRecDepth 100000 in
theorem t_X12_goes0_h3 : ∀ (n : Nat) (l1 : Int32) (l2 : Int32) (l3 : Int32) (l4 : Int32) (l5 : Int32) (w0 : Option Value) (w1 : Option Value) (w2 : Option Value) (S : ga_S) (s : ga_M) (r : ga_M), f_X12_goes0_h3 n l1 l2 l3 l4 l5 s = some r → T_X12_goes0 gaSH ga_kV (3, [some (.ref 72), some (.int l1), some (.int l2), some (.int l3), some (.int l4), some (.int l5), w0, w1, w2], [], S, s, 0, 0) r := by
  intro n
  induction n with
  | zero => intro l1 l2 l3 l4 l5 w0 w1 w2 S s r h; cases h
  | succ n ih => intro l1 l2 l3 l4 l5 w0 w1 w2 S s r h; exact ga_T_S fun hS => (by
    cases hS
    exact ga_T_go (sp := ga_sp [(3, 0, 0, fun L s => match L with
      | [some (.ref 72), some (.int l1), some (.int l2), some (.int l3), some (.int l4), some (.int l5), _, _, _] => f_X12_goes0_h3 n l1 l2 l3 l4 l5 s
      | _ => none), (167, 0, 0, fun L s => match L with
      | [some (.ref 72), some (.int l1), some (.int l2), some (.int l3), some (.int l4), some (.int l5), _, _, some (.int l8)] => f_X12_goes0_h167 (f_X12_goes0_h3 n) ga_fuel l1 l2 l3 l4 l5 l8 s
      | _ => none)]) (ga_sp_T (List.forall_mem_cons.mpr ⟨fun L S s1 h => (by
      dsimp only at h
      split at h
      · exact ih _ _ _ _ _ _ _ _ S s1 _ h
      · cases h), List.forall_mem_cons.mpr ⟨fun L S s1 h => (by
      dsimp only at h
      split at h
      · exact t_X12_goes0_h167 ih ga_fuel _ _ _ _ _ _ _ _ S s1 _ h
      · cases h), fun _ h => nomatch h⟩⟩)) (n := 600) h)
set_option maxRecDepth 100000 in
theorem t_X12_goes0 (a : Int32) (b : Int32) (c : Int32) (d : Int32) (s : ga_M) (r : ga_M) (h : f_X12_goes0 a b c d s = some r) : T_X12_goes0 gaSH ga_kV (0, [some (.ref 72), some (.int a), some (.int b), some (.int c), some (.int d), none, none, none, none], [], gaSH, s, 0, 0) r := (by
    rw [fe_X12_goes0] at h
    exact ga_T_go (sp := ga_sp [(3, 0, 0, fun L s => match L with
      | [some (.ref 72), some (.int l1), some (.int l2), some (.int l3), some (.int l4), some (.int l5), _, _, _] => f_X12_goes0_h3 ga_fuel l1 l2 l3 l4 l5 s
      | _ => none)]) (ga_sp_T (List.forall_mem_cons.mpr ⟨fun L S s1 h => (by
      dsimp only at h
      split at h
      · exact t_X12_goes0_h3 ga_fuel _ _ _ _ _ _ _ _ S s1 _ h
      · cases h), fun _ h => nomatch h⟩)) (n := 600) h)
abbrev T_X12_findChain {α : Type} (P : ga_S) (K0 : ga_O → Option α) (cfg : ga_C) (r : α) : Prop := ga_T RX12 cX12_findChain (ga_lk cl_X12_findChain) gaG gaCost (fun _ => []) gaCls 83 0 0 false true true none (fun S _ => S = P) K0 cfg r
set_option maxRecDepth 100000 in
theorem t_X12_findChain_h17 : ∀ (n : Nat) (l1 : Int32) (l2 : Int32) (S : ga_S) (s : ga_M) (r : Int32 × ga_M), f_X12_findChain_h17 n l1 l2 s = some r → T_X12_findChain gaSH ga_kI (17, [some (.ref 72), some (.int l1), some (.int l2)], [], S, s, 0, 0) r := by
  intro n
  induction n with
  | zero => intro l1 l2 S s r h; cases h
  | succ n ih => intro l1 l2 S s r h; exact ga_T_S fun hS => (by
    cases hS
    exact ga_T_go (sp := ga_sp [(17, 0, 0, fun L s => match L with
      | [some (.ref 72), some (.int l1), some (.int l2)] => f_X12_findChain_h17 n l1 l2 s
      | _ => none)]) (ga_sp_T (List.forall_mem_cons.mpr ⟨fun L S s1 h => (by
      dsimp only at h
      split at h
      · exact ih _ _  S s1 _ h
      · cases h), fun _ h => nomatch h⟩)) (n := 600) h)
set_option maxRecDepth 100000 in
theorem t_X12_findChain (a : Int32) (s : ga_M) (r : Int32 × ga_M) (h : f_X12_findChain a s = some r) : T_X12_findChain gaSH ga_kI (0, [some (.ref 72), some (.int a), none], [], gaSH, s, 0, 0) r := (by
    rw [fe_X12_findChain] at h
    exact ga_T_go (sp := ga_sp [(17, 0, 0, fun L s => match L with
      | [some (.ref 72), some (.int l1), some (.int l2)] => f_X12_findChain_h17 ga_fuel l1 l2 s
      | _ => none)]) (ga_sp_T (List.forall_mem_cons.mpr ⟨fun L S s1 h => (by
      dsimp only at h
      split at h
      · exact t_X12_findChain_h17 ga_fuel _ _  S s1 _ h
      · cases h), fun _ h => nomatch h⟩)) (n := 600) h)
abbrev T_X12_isTeacher {α : Type} (P : ga_S) (s0 : ga_M) (K0 : ga_O → Option α) (cfg : ga_C) (r : α) : Prop := ga_T RX12 cX12_isTeacher (ga_lk cl_X12_isTeacher) gaGP gaCost (fun _ => []) gaCls 83 0 0 false true false none (fun S σ => S = P ∧ σ = s0) K0 cfg r
set_option maxRecDepth 100000 in
theorem t_X12_isTeacher (a : Int32) (s : ga_M) (r : Int32) (h : f_X12_isTeacher a s = some r) : T_X12_isTeacher gaSH s gp_kI (0, [some (.ref 72), some (.int a)], [], gaSH, s, 0, 0) r := (by
    rw [fe_X12_isTeacher] at h
    exact ga_T_go (sp := ga_sp []) (ga_sp_T (fun _ h => nomatch h)) (n := 600) h)
abbrev T_X12_dutiesOf {α : Type} (P : ga_S) (s0 : ga_M) (K0 : ga_O → Option α) (cfg : ga_C) (r : α) : Prop := ga_T RX12 cX12_dutiesOf (ga_lk cl_X12_dutiesOf) gaGP gaCost (fun _ => []) gaCls 83 0 0 false true false none (fun S σ => S = P ∧ σ = s0) K0 cfg r
set_option maxRecDepth 100000 in
theorem t_X12_dutiesOf_h5 (s0 : ga_M) : ∀ (n : Nat) (l1 : Int32) (l2 : Int32) (l3 : Int32) (l4 : Int32) (w0 : Option Value) (S : ga_S) (s : ga_M) (r : Int32), f_X12_dutiesOf_h5 n l1 l2 l3 l4 s = some r → T_X12_dutiesOf gaSH s0 gp_kI (5, [some (.ref 72), some (.int l1), some (.int l2), some (.int l3), some (.int l4), w0], [], S, s, 0, 0) r := by
  intro n
  induction n with
  | zero => intro l1 l2 l3 l4 w0 S s r h; cases h
  | succ n ih => intro l1 l2 l3 l4 w0 S s r h; exact ga_T_S fun hS => (by
    obtain ⟨rfl, rfl⟩ := hS
    exact ga_T_go (sp := ga_sp [(5, 0, 0, fun L s => match L with
      | [some (.ref 72), some (.int l1), some (.int l2), some (.int l3), some (.int l4), _] => f_X12_dutiesOf_h5 n l1 l2 l3 l4 s
      | _ => none)]) (ga_sp_T (List.forall_mem_cons.mpr ⟨fun L S s1 h => (by
      dsimp only at h
      split at h
      · exact ih _ _ _ _ _ S s1 _ h
      · cases h), fun _ h => nomatch h⟩)) (n := 600) h)
set_option maxRecDepth 100000 in
theorem t_X12_dutiesOf (a : Int32) (b : Int32) (s : ga_M) (r : Int32) (h : f_X12_dutiesOf a b s = some r) : T_X12_dutiesOf gaSH s gp_kI (0, [some (.ref 72), some (.int a), some (.int b), none, none, none], [], gaSH, s, 0, 0) r := (by
    rw [fe_X12_dutiesOf] at h
    exact ga_T_go (sp := ga_sp [(5, 0, 0, fun L s => match L with
      | [some (.ref 72), some (.int l1), some (.int l2), some (.int l3), some (.int l4), _] => f_X12_dutiesOf_h5 ga_fuel l1 l2 l3 l4 s
      | _ => none)]) (ga_sp_T (List.forall_mem_cons.mpr ⟨fun L S s1 h => (by
      dsimp only at h
      split at h
      · exact t_X12_dutiesOf_h5 s ga_fuel _ _ _ _ _ S s1 _ h
      · cases h), fun _ h => nomatch h⟩)) (n := 600) h)
abbrev T_X12_reasonToWatch {α : Type} (P : ga_S) (s0 : ga_M) (K0 : ga_O → Option α) (cfg : ga_C) (r : α) : Prop := ga_T RX12 cX12_reasonToWatch (ga_lk cl_X12_reasonToWatch) gaGP gaCost (fun _ => []) gaCls 83 0 0 false true false none (fun S σ => S = P ∧ σ = s0) K0 cfg r
set_option maxRecDepth 100000 in
theorem t_X12_reasonToWatch (a : Int32) (b : Int32) (s : ga_M) (r : Int32) (h : f_X12_reasonToWatch a b s = some r) : T_X12_reasonToWatch gaSH s gp_kI (0, [some (.ref 72), some (.int a), some (.int b), none], [], gaSH, s, 0, 0) r := (by
    rw [fe_X12_reasonToWatch] at h
    exact ga_T_go (sp := ga_sp []) (ga_sp_T (fun _ h => nomatch h)) (n := 600) h)
abbrev T_X12_reasonToCover {α : Type} (P : ga_S) (s0 : ga_M) (K0 : ga_O → Option α) (cfg : ga_C) (r : α) : Prop := ga_T RX12 cX12_reasonToCover (ga_lk cl_X12_reasonToCover) gaGP gaCost (fun _ => []) gaCls 83 0 0 false true false none (fun S σ => S = P ∧ σ = s0) K0 cfg r
set_option maxRecDepth 100000 in
theorem t_X12_reasonToCover (a : Int32) (b : Int32) (s : ga_M) (r : Int32) (h : f_X12_reasonToCover a b s = some r) : T_X12_reasonToCover gaSH s gp_kI (0, [some (.ref 72), some (.int a), some (.int b), none], [], gaSH, s, 0, 0) r := (by
    rw [fe_X12_reasonToCover] at h
    exact ga_T_go (sp := ga_sp []) (ga_sp_T (fun _ h => nomatch h)) (n := 600) h)
abbrev T_X12_isDay {α : Type} (P : ga_S) (s0 : ga_M) (K0 : ga_O → Option α) (cfg : ga_C) (r : α) : Prop := ga_T RX12 cX12_isDay (ga_lk cl_X12_isDay) gaGP gaCost (fun _ => []) gaCls 83 0 0 false true false none (fun S σ => S = P ∧ σ = s0) K0 cfg r
set_option maxRecDepth 100000 in
theorem t_X12_isDay (a : Int32) (s : ga_M) (r : Int32) (h : f_X12_isDay a s = some r) : T_X12_isDay gaSH s gp_kI (0, [some (.ref 72), some (.int a)], [], gaSH, s, 0, 0) r := (by
    rw [fe_X12_isDay] at h
    exact ga_T_go (sp := ga_sp []) (ga_sp_T (fun _ h => nomatch h)) (n := 600) h)
abbrev T_X12_canStep {α : Type} (P : ga_S) (K0 : ga_O → Option α) (cfg : ga_C) (r : α) : Prop := ga_T RX12 cX12_canStep (ga_lk cl_X12_canStep) gaG gaCost (fun _ => []) gaCls 83 0 0 false true true none (fun S _ => S = P) K0 cfg r
set_option maxRecDepth 100000 in
theorem t_X12_canStep (a : Int32) (b : Int32) (c : Int32) (s : ga_M) (r : Int32 × ga_M) (h : f_X12_canStep a b c s = some r) : T_X12_canStep gaSH ga_kI (0, [some (.ref 72), some (.int a), some (.int b), some (.int c)], [], gaSH, s, 0, 0) r := (by
    rw [fe_X12_canStep] at h
    exact ga_T_go (sp := ga_sp []) (ga_sp_T (fun _ h => nomatch h)) (n := 600) h)
abbrev T_X12_opens {α : Type} (P : ga_S) (K0 : ga_O → Option α) (cfg : ga_C) (r : α) : Prop := ga_T RX12 cX12_opens (ga_lk cl_X12_opens) gaG gaCost (fun _ => []) gaCls 83 0 0 false true true none (fun S _ => S = P) K0 cfg r
set_option maxRecDepth 100000 in
theorem t_X12_opens (a : Int32) (s : ga_M) (r : ga_M) (h : f_X12_opens a s = some r) : T_X12_opens gaSH ga_kV (0, [some (.ref 72), some (.int a)], [], gaSH, s, 0, 0) r := (by
    rw [fe_X12_opens] at h
    exact ga_T_go (sp := ga_sp []) (ga_sp_T (fun _ h => nomatch h)) (n := 600) h)
abbrev T_X12_swaps {α : Type} (P : ga_S) (K0 : ga_O → Option α) (cfg : ga_C) (r : α) : Prop := ga_T RX12 cX12_swaps (ga_lk cl_X12_swaps) gaG gaCost (fun _ => []) gaCls 83 0 0 false true true none (fun S _ => S = P) K0 cfg r
set_option maxRecDepth 100000 in
theorem t_X12_swaps (a : Int32) (b : Int32) (s : ga_M) (r : ga_M) (h : f_X12_swaps a b s = some r) : T_X12_swaps gaSH ga_kV (0, [some (.ref 72), some (.int a), some (.int b), none], [], gaSH, s, 0, 0) r := (by
    rw [fe_X12_swaps] at h
    exact ga_T_go (sp := ga_sp []) (ga_sp_T (fun _ h => nomatch h)) (n := 600) h)
abbrev T_X12_chains {α : Type} (P : ga_S) (K0 : ga_O → Option α) (cfg : ga_C) (r : α) : Prop := ga_T RX12 cX12_chains (ga_lk cl_X12_chains) gaG gaCost (fun _ => []) gaCls 83 0 0 false true true none (fun S _ => S = P) K0 cfg r
set_option maxRecDepth 100000 in
theorem t_X12_chains_h14 : ∀ (n : Nat) (l2 : Int32) (l3 : Int32) (l4 : Int32) (w0 : Option Value) (w1 : Option Value) (S : ga_S) (s : ga_M) (r : ga_M), f_X12_chains_h14 n l2 l3 l4 s = some r → T_X12_chains gaSH ga_kV (14, [some (.ref 72), w0, some (.int l2), some (.int l3), some (.int l4), w1], [], S, s, 0, 0) r := by
  intro n
  induction n with
  | zero => intro l2 l3 l4 w0 w1 S s r h; cases h
  | succ n ih => intro l2 l3 l4 w0 w1 S s r h; exact ga_T_S fun hS => (by
    cases hS
    exact ga_T_go (sp := ga_sp [(14, 0, 0, fun L s => match L with
      | [some (.ref 72), _, some (.int l2), some (.int l3), some (.int l4), _] => f_X12_chains_h14 n l2 l3 l4 s
      | _ => none)]) (ga_sp_T (List.forall_mem_cons.mpr ⟨fun L S s1 h => (by
      dsimp only at h
      split at h
      · exact ih _ _ _ _ _ S s1 _ h
      · cases h), fun _ h => nomatch h⟩)) (n := 600) h)
set_option maxRecDepth 100000 in
theorem t_X12_chains (a : Int32) (s : ga_M) (r : ga_M) (h : f_X12_chains a s = some r) : T_X12_chains gaSH ga_kV (0, [some (.ref 72), some (.int a), none, none, none, none], [], gaSH, s, 0, 0) r := (by
    rw [fe_X12_chains] at h
    exact ga_T_go (sp := ga_sp [(14, 0, 0, fun L s => match L with
      | [some (.ref 72), _, some (.int l2), some (.int l3), some (.int l4), _] => f_X12_chains_h14 ga_fuel l2 l3 l4 s
      | _ => none)]) (ga_sp_T (List.forall_mem_cons.mpr ⟨fun L S s1 h => (by
      dsimp only at h
      split at h
      · exact t_X12_chains_h14 ga_fuel _ _ _ _ _ S s1 _ h
      · cases h), fun _ h => nomatch h⟩)) (n := 600) h)
abbrev T_X12_repairsAll {α : Type} (P : ga_S) (K0 : ga_O → Option α) (cfg : ga_C) (r : α) : Prop := ga_T RX12 cX12_repairsAll (ga_lk cl_X12_repairsAll) gaG gaCost (fun _ => []) gaCls 83 0 0 false true true none (fun S _ => S = P) K0 cfg r
set_option maxRecDepth 100000 in
theorem t_X12_repairsAll_h4 : ∀ (n : Nat) (l1 : Int32) (l2 : Int32) (S : ga_S) (s : ga_M) (r : Int32 × ga_M), f_X12_repairsAll_h4 n l1 l2 s = some r → T_X12_repairsAll gaSH ga_kI (4, [some (.ref 72), some (.int l1), some (.int l2)], [], S, s, 0, 0) r := by
  intro n
  induction n with
  | zero => intro l1 l2 S s r h; cases h
  | succ n ih => intro l1 l2 S s r h; exact ga_T_S fun hS => (by
    cases hS
    exact ga_T_go (sp := ga_sp [(4, 0, 0, fun L s => match L with
      | [some (.ref 72), some (.int l1), some (.int l2)] => f_X12_repairsAll_h4 n l1 l2 s
      | _ => none)]) (ga_sp_T (List.forall_mem_cons.mpr ⟨fun L S s1 h => (by
      dsimp only at h
      split at h
      · exact ih _ _  S s1 _ h
      · cases h), fun _ h => nomatch h⟩)) (n := 600) h)
set_option maxRecDepth 100000 in
theorem t_X12_repairsAll (s : ga_M) (r : Int32 × ga_M) (h : f_X12_repairsAll s = some r) : T_X12_repairsAll gaSH ga_kI (0, [some (.ref 72), none, none], [], gaSH, s, 0, 0) r := (by
    rw [fe_X12_repairsAll] at h
    exact ga_T_go (sp := ga_sp [(4, 0, 0, fun L s => match L with
      | [some (.ref 72), some (.int l1), some (.int l2)] => f_X12_repairsAll_h4 ga_fuel l1 l2 s
      | _ => none)]) (ga_sp_T (List.forall_mem_cons.mpr ⟨fun L S s1 h => (by
      dsimp only at h
      split at h
      · exact t_X12_repairsAll_h4 ga_fuel _ _  S s1 _ h
      · cases h), fun _ h => nomatch h⟩)) (n := 600) h)
abbrev T_X12_gives {α : Type} (P : ga_S) (K0 : ga_O → Option α) (cfg : ga_C) (r : α) : Prop := ga_T RX12 cX12_gives (ga_lk cl_X12_gives) gaG gaCost (fun _ => []) gaCls 83 0 0 false true true none (fun S _ => S = P) K0 cfg r
set_option maxRecDepth 100000 in
theorem t_X12_gives (a : Int32) (b : Int32) (c : Int32) (s : ga_M) (r : ga_M) (h : f_X12_gives a b c s = some r) : T_X12_gives gaSH ga_kV (0, [some (.ref 72), some (.int a), some (.int b), some (.int c)], [], gaSH, s, 0, 0) r := (by
    rw [fe_X12_gives] at h
    exact ga_T_go (sp := ga_sp []) (ga_sp_T (fun _ h => nomatch h)) (n := 600) h)
abbrev T_X12_absents {α : Type} (P : ga_S) (K0 : ga_O → Option α) (cfg : ga_C) (r : α) : Prop := ga_T RX12 cX12_absents (ga_lk cl_X12_absents) gaG gaCost (fun _ => []) gaCls 83 0 0 false true true none (fun S _ => S = P) K0 cfg r
set_option maxRecDepth 100000 in
theorem t_X12_absents_h56 : ∀ (n : Nat) (l1 : Int32) (l2 : Int32) (l3 : Int32) (l5 : Int32) (l6 : Int32) (w0 : Option Value) (S : ga_S) (s : ga_M) (r : Int32 × ga_M), f_X12_absents_h56 n l1 l2 l3 l5 l6 s = some r → T_X12_absents gaSH ga_kI (56, [some (.ref 72), some (.int l1), some (.int l2), some (.int l3), w0, some (.int l5), some (.int l6)], [], S, s, 0, 0) r := by
  intro n
  induction n with
  | zero => intro l1 l2 l3 l5 l6 w0 S s r h; cases h
  | succ n ih => intro l1 l2 l3 l5 l6 w0 S s r h; exact ga_T_S fun hS => (by
    cases hS
    exact ga_T_go (sp := ga_sp [(56, 0, 0, fun L s => match L with
      | [some (.ref 72), some (.int l1), some (.int l2), some (.int l3), _, some (.int l5), some (.int l6)] => f_X12_absents_h56 n l1 l2 l3 l5 l6 s
      | _ => none)]) (ga_sp_T (List.forall_mem_cons.mpr ⟨fun L S s1 h => (by
      dsimp only at h
      split at h
      · exact ih _ _ _ _ _ _ S s1 _ h
      · cases h), fun _ h => nomatch h⟩)) (n := 600) h)
set_option maxRecDepth 100000 in
theorem t_X12_absents (a : Int32) (b : Int32) (c : Int32) (s : ga_M) (r : Int32 × ga_M) (h : f_X12_absents a b c s = some r) : T_X12_absents gaSH ga_kI (0, [some (.ref 72), some (.int a), some (.int b), some (.int c), none, none, none], [], gaSH, s, 0, 0) r := (by
    rw [fe_X12_absents] at h
    exact ga_T_go (sp := ga_sp [(56, 0, 0, fun L s => match L with
      | [some (.ref 72), some (.int l1), some (.int l2), some (.int l3), _, some (.int l5), some (.int l6)] => f_X12_absents_h56 ga_fuel l1 l2 l3 l5 l6 s
      | _ => none)]) (ga_sp_T (List.forall_mem_cons.mpr ⟨fun L S s1 h => (by
      dsimp only at h
      split at h
      · exact t_X12_absents_h56 ga_fuel _ _ _ _ _ _ S s1 _ h
      · cases h), fun _ h => nomatch h⟩)) (n := 600) h)
abbrev T_X12_doStep {α : Type} (P : ga_S) (K0 : ga_O → Option α) (cfg : ga_C) (r : α) : Prop := ga_T RX12 cX12_doStep (ga_lk cl_X12_doStep) gaG gaCost (fun _ => []) gaCls 83 0 0 false true true none (fun S _ => S = P) K0 cfg r
set_option maxRecDepth 100000 in
theorem t_X12_doStep (a : Int32) (b : Int32) (c : Int32) (s : ga_M) (r : ga_M) (h : f_X12_doStep a b c s = some r) : T_X12_doStep gaSH ga_kV (0, [some (.ref 72), some (.int a), some (.int b), some (.int c)], [], gaSH, s, 0, 0) r := (by
    rw [fe_X12_doStep] at h
    exact ga_T_go (sp := ga_sp []) (ga_sp_T (fun _ h => nomatch h)) (n := 600) h)
abbrev T_X12_goesThrough {α : Type} (P : ga_S) (K0 : ga_O → Option α) (cfg : ga_C) (r : α) : Prop := ga_T RX12 cX12_goesThrough (ga_lk cl_X12_goesThrough) gaG gaCost (fun _ => []) gaCls 83 0 0 false true true none (fun S _ => S = P) K0 cfg r
set_option maxRecDepth 100000 in
theorem t_X12_goesThrough_j97 (l1 : Int32) (l2 : Int32) (l4 : Int32) (l5 : Int32) (w0 : Option Value) (S : ga_S) (s : ga_M) (r : ga_M) (h : f_X12_goesThrough_j97 l1 l2 l4 l5 s = some r) : T_X12_goesThrough gaSH ga_kV (97, [some (.ref 72), some (.int l1), some (.int l2), w0, some (.int l4), some (.int l5)], [], S, s, 0, 0) r := ga_T_S fun hS => (by
    cases hS
    rw [fe_X12_goesThrough_j97] at h
    exact ga_T_go (sp := ga_sp []) (ga_sp_T (fun _ h => nomatch h)) (n := 600) h)
set_option maxRecDepth 100000 in
theorem t_X12_goesThrough_j65 (l1 : Int32) (l2 : Int32) (l4 : Int32) (w0 : Option Value) (w1 : Option Value) (S : ga_S) (s : ga_M) (r : ga_M) (h : f_X12_goesThrough_j65 l1 l2 l4 s = some r) : T_X12_goesThrough gaSH ga_kV (65, [some (.ref 72), some (.int l1), some (.int l2), w0, some (.int l4), w1], [], S, s, 0, 0) r := ga_T_S fun hS => (by
    cases hS
    rw [fe_X12_goesThrough_j65] at h
    exact ga_T_go (sp := ga_sp [(97, 0, 0, fun L s => match L with
      | [some (.ref 72), some (.int l1), some (.int l2), _, some (.int l4), some (.int l5)] => f_X12_goesThrough_j97 l1 l2 l4 l5 s
      | _ => none)]) (ga_sp_T (List.forall_mem_cons.mpr ⟨fun L S s1 h => (by
      dsimp only at h
      split at h
      · exact t_X12_goesThrough_j97 _ _ _ _ _ S s1 _ h
      · cases h), fun _ h => nomatch h⟩)) (n := 600) h)
set_option maxRecDepth 100000 in
theorem t_X12_goesThrough_j35 (l1 : Int32) (l2 : Int32) (w0 : Option Value) (w1 : Option Value) (w2 : Option Value) (S : ga_S) (s : ga_M) (r : ga_M) (h : f_X12_goesThrough_j35 l1 l2 s = some r) : T_X12_goesThrough gaSH ga_kV (35, [some (.ref 72), some (.int l1), some (.int l2), w0, w1, w2], [], S, s, 0, 0) r := ga_T_S fun hS => (by
    cases hS
    rw [fe_X12_goesThrough_j35] at h
    exact ga_T_go (sp := ga_sp [(65, 0, 0, fun L s => match L with
      | [some (.ref 72), some (.int l1), some (.int l2), _, some (.int l4), _] => f_X12_goesThrough_j65 l1 l2 l4 s
      | _ => none)]) (ga_sp_T (List.forall_mem_cons.mpr ⟨fun L S s1 h => (by
      dsimp only at h
      split at h
      · exact t_X12_goesThrough_j65 _ _ _ _ _ S s1 _ h
      · cases h), fun _ h => nomatch h⟩)) (n := 600) h)
set_option maxRecDepth 100000 in
theorem t_X12_goesThrough_j20 (l1 : Int32) (l2 : Int32) (w0 : Option Value) (w1 : Option Value) (w2 : Option Value) (S : ga_S) (s : ga_M) (r : ga_M) (h : f_X12_goesThrough_j20 l1 l2 s = some r) : T_X12_goesThrough gaSH ga_kV (20, [some (.ref 72), some (.int l1), some (.int l2), w0, w1, w2], [], S, s, 0, 0) r := ga_T_S fun hS => (by
    cases hS
    rw [fe_X12_goesThrough_j20] at h
    exact ga_T_go (sp := ga_sp [(35, 0, 0, fun L s => match L with
      | [some (.ref 72), some (.int l1), some (.int l2), _, _, _] => f_X12_goesThrough_j35 l1 l2 s
      | _ => none), (65, 0, 0, fun L s => match L with
      | [some (.ref 72), some (.int l1), some (.int l2), _, some (.int l4), _] => f_X12_goesThrough_j65 l1 l2 l4 s
      | _ => none), (97, 0, 0, fun L s => match L with
      | [some (.ref 72), some (.int l1), some (.int l2), _, some (.int l4), some (.int l5)] => f_X12_goesThrough_j97 l1 l2 l4 l5 s
      | _ => none)]) (ga_sp_T (List.forall_mem_cons.mpr ⟨fun L S s1 h => (by
      dsimp only at h
      split at h
      · exact t_X12_goesThrough_j35 _ _ _ _ _ S s1 _ h
      · cases h), List.forall_mem_cons.mpr ⟨fun L S s1 h => (by
      dsimp only at h
      split at h
      · exact t_X12_goesThrough_j65 _ _ _ _ _ S s1 _ h
      · cases h), List.forall_mem_cons.mpr ⟨fun L S s1 h => (by
      dsimp only at h
      split at h
      · exact t_X12_goesThrough_j97 _ _ _ _ _ S s1 _ h
      · cases h), fun _ h => nomatch h⟩⟩⟩)) (n := 600) h)
set_option maxRecDepth 100000 in
theorem t_X12_goesThrough (s : ga_M) (r : ga_M) (h : f_X12_goesThrough s = some r) : T_X12_goesThrough gaSH ga_kV (0, [some (.ref 72), none, none, none, none, none], [], gaSH, s, 0, 0) r := (by
    rw [fe_X12_goesThrough] at h
    exact ga_T_go (sp := ga_sp [(20, 0, 0, fun L s => match L with
      | [some (.ref 72), some (.int l1), some (.int l2), _, _, _] => f_X12_goesThrough_j20 l1 l2 s
      | _ => none)]) (ga_sp_T (List.forall_mem_cons.mpr ⟨fun L S s1 h => (by
      dsimp only at h
      split at h
      · exact t_X12_goesThrough_j20 _ _ _ _ _ S s1 _ h
      · cases h), fun _ h => nomatch h⟩)) (n := 600) h)
