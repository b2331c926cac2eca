abbrev T_X12_runScript {α : Type} (P : ga_S) (K0 : ga_O → Option α) (cfg : ga_C) (r : α) : Prop := ga_T RX12 cX12_runScript (ga_lk cl_X12_runScript) gaG gaCost (fun _ => []) gaCls 83 0 0 false true true none (fun S _ => S = P) K0 cfg r
set_option maxRecDepth 100000 in
theorem t_X12_runScript_h22 : ∀ (n : Nat) (l1 : Int32) (S : ga_S) (s : ga_M) (r : Int32 × ga_M), f_X12_runScript_h22 n l1 s = some r → T_X12_runScript gaSH ga_kI (22, [some (.ref 72), some (.int l1)], [], S, s, 0, 0) r := by
  intro n
  induction n with
  | zero => intro l1 S s r h; cases h
  | succ n ih => intro l1 S s r h; exact ga_T_S fun hS => (by
    cases hS
    exact ga_T_go (sp := ga_sp [(22, 0, 0, fun L s => match L with
      | [some (.ref 72), some (.int l1)] => f_X12_runScript_h22 n l1 s
      | _ => none)]) (ga_sp_T (List.forall_mem_cons.mpr ⟨fun L S s1 h => (by
      dsimp only at h
      split at h
      · exact ih _  S s1 _ h
      · cases h), fun _ h => nomatch h⟩)) (n := 600) h)
set_option maxRecDepth 100000 in
theorem t_X12_runScript (s : ga_M) (r : Int32 × ga_M) (h : f_X12_runScript s = some r) : T_X12_runScript gaSH ga_kI (0, [some (.ref 72), none], [], gaSH, s, 0, 0) r := (by
    rw [fe_X12_runScript] at h
    exact ga_T_go (sp := ga_sp [(22, 0, 0, fun L s => match L with
      | [some (.ref 72), some (.int l1)] => f_X12_runScript_h22 ga_fuel l1 s
      | _ => none)]) (ga_sp_T (List.forall_mem_cons.mpr ⟨fun L S s1 h => (by
      dsimp only at h
      split at h
      · exact t_X12_runScript_h22 ga_fuel _  S s1 _ h
      · cases h), fun _ h => nomatch h⟩)) (n := 600) h)
abbrev T_X11_errorCode {α : Type} (P : ga_S) (s0 : ga_M) (K0 : ga_O → Option α) (cfg : ga_C) (r : α) : Prop := ga_T RX11 cX11_errorCode (ga_lk cl_X11_errorCode) gaGP gaCost (fun _ => []) gaCls 83 0 0 false true false none (fun S σ => S = P ∧ σ = s0) K0 cfg r
set_option maxRecDepth 100000 in
theorem t_X11_errorCode (s : ga_M) (r : Int32) (h : f_X11_errorCode s = some r) : T_X11_errorCode gaSH s gp_kI (0, [some (.ref 0)], [], gaSH, s, 0, 0) r := (by
    rw [fe_X11_errorCode] at h
    exact ga_T_go (sp := ga_sp []) (ga_sp_T (fun _ h => nomatch h)) (n := 600) h)
abbrev T_X12_errorCode {α : Type} (P : ga_S) (K0 : ga_O → Option α) (cfg : ga_C) (r : α) : Prop := ga_T RX12 cX12_errorCode (ga_lk cl_X12_errorCode) gaG gaCost (fun _ => []) gaCls 83 0 0 false true true none (fun S _ => S = P) K0 cfg r
set_option maxRecDepth 100000 in
theorem t_X12_errorCode (s : ga_M) (r : Int32 × ga_M) (h : f_X12_errorCode s = some r) : T_X12_errorCode gaSH ga_kI (0, [some (.ref 72)], [], gaSH, s, 0, 0) r := (by
    rw [fe_X12_errorCode] at h
    exact ga_T_go (sp := ga_sp []) (ga_sp_T (fun _ h => nomatch h)) (n := 600) h)
abbrev T_X11_errorPosition {α : Type} (P : ga_S) (s0 : ga_M) (K0 : ga_O → Option α) (cfg : ga_C) (r : α) : Prop := ga_T RX11 cX11_errorPosition (ga_lk cl_X11_errorPosition) gaGP gaCost (fun _ => []) gaCls 83 0 0 false true false none (fun S σ => S = P ∧ σ = s0) K0 cfg r
set_option maxRecDepth 100000 in
theorem t_X11_errorPosition (s : ga_M) (r : Int32) (h : f_X11_errorPosition s = some r) : T_X11_errorPosition gaSH s gp_kI (0, [some (.ref 0)], [], gaSH, s, 0, 0) r := (by
    rw [fe_X11_errorPosition] at h
    exact ga_T_go (sp := ga_sp []) (ga_sp_T (fun _ h => nomatch h)) (n := 600) h)
abbrev T_X12_errorPosition {α : Type} (P : ga_S) (K0 : ga_O → Option α) (cfg : ga_C) (r : α) : Prop := ga_T RX12 cX12_errorPosition (ga_lk cl_X12_errorPosition) gaG gaCost (fun _ => []) gaCls 83 0 0 false true true none (fun S _ => S = P) K0 cfg r
set_option maxRecDepth 100000 in
theorem t_X12_errorPosition (s : ga_M) (r : Int32 × ga_M) (h : f_X12_errorPosition s = some r) : T_X12_errorPosition gaSH ga_kI (0, [some (.ref 72)], [], gaSH, s, 0, 0) r := (by
    rw [fe_X12_errorPosition] at h
    exact ga_T_go (sp := ga_sp []) (ga_sp_T (fun _ h => nomatch h)) (n := 600) h)
abbrev T_X11_requireTeacher {α : Type} (P : ga_S) (s0 : ga_M) (K0 : ga_O → Option α) (cfg : ga_C) (r : α) : Prop := ga_T RX11 cX11_requireTeacher (ga_lk cl_X11_requireTeacher) gaGP gaCost (fun _ => []) gaCls 83 1 6 false true false none (fun S σ => S = P ∧ σ = s0) K0 cfg r
set_option maxRecDepth 100000 in
theorem t_X11_requireTeacher (a : Int32) (s : ga_M) (r : Option Nat) (h : f_X11_requireTeacher a s = some r) : T_X11_requireTeacher gaSH s gp_kVX (0, [some (.ref 0), some (.int a)], [], gaSH, s, 0, 0) r := (by
    rw [fe_X11_requireTeacher] at h
    exact ga_T_go (sp := ga_sp []) (ga_sp_T (fun _ h => nomatch h)) (n := 600) h)
abbrev T_X11_requireDay {α : Type} (P : ga_S) (s0 : ga_M) (K0 : ga_O → Option α) (cfg : ga_C) (r : α) : Prop := ga_T RX11 cX11_requireDay (ga_lk cl_X11_requireDay) gaGP gaCost (fun _ => []) gaCls 83 1 6 false true false none (fun S σ => S = P ∧ σ = s0) K0 cfg r
set_option maxRecDepth 100000 in
theorem t_X11_requireDay (a : Int32) (s : ga_M) (r : Option Nat) (h : f_X11_requireDay a s = some r) : T_X11_requireDay gaSH s gp_kVX (0, [some (.ref 0), some (.int a)], [], gaSH, s, 0, 0) r := (by
    rw [fe_X11_requireDay] at h
    exact ga_T_go (sp := ga_sp []) (ga_sp_T (fun _ h => nomatch h)) (n := 600) h)
abbrev T_X11_setAbsent {α : Type} (P : ga_S) (K0 : ga_O → Option α) (cfg : ga_C) (r : α) : Prop := ga_T RX11 cX11_setAbsent (ga_lk cl_X11_setAbsent) gaG gaCost (fun _ => []) gaCls 83 2 12 false true true none (fun S _ => S = P) K0 cfg r
set_option maxRecDepth 100000 in
theorem t_X11_setAbsent (a : Int32) (b : Int32) (c : Int32) (s : ga_M) (r : (Int32 ⊕ Nat) × ga_M) (h : f_X11_setAbsent a b c s = some r) : T_X11_setAbsent gaSH ga_kIX (0, [some (.ref 0), some (.int a), some (.int b), some (.int c), none], [], gaSH, s, 0, 0) r := (by
    rw [fe_X11_setAbsent] at h
    exact ga_T_go (sp := ga_sp []) (ga_sp_T (fun _ h => nomatch h)) (n := 600) h)
abbrev T_X12_fails {α : Type} (P : ga_S) (K0 : ga_O → Option α) (cfg : ga_C) (r : α) : Prop := ga_T RX12 cX12_fails (ga_lk cl_X12_fails) gaG gaCost (fun _ => []) gaCls 83 0 0 false true true none (fun S _ => S = P) K0 cfg r
set_option maxRecDepth 100000 in
theorem t_X12_fails (a : Int32) (b : Int32) (s : ga_M) (r : Int32 × ga_M) (h : f_X12_fails a b s = some r) : T_X12_fails gaSH ga_kI (0, [some (.ref 72), some (.int a), some (.int b)], [], gaSH, s, 0, 0) r := (by
    rw [fe_X12_fails] at h
    exact ga_T_go (sp := ga_sp []) (ga_sp_T (fun _ h => nomatch h)) (n := 600) h)
abbrev T_X12_remember {α : Type} (P : ga_S) (K0 : ga_O → Option α) (cfg : ga_C) (r : α) : Prop := ga_T RX12 cX12_remember (ga_lk cl_X12_remember) gaG gaCost (fun _ => []) gaCls 83 0 0 false true true none (fun S _ => S = P) K0 cfg r
set_option maxRecDepth 100000 in
theorem t_X12_remember (s : ga_M) (r : ga_M) (h : f_X12_remember s = some r) : T_X12_remember gaSH ga_kV (0, [some (.ref 72)], [], gaSH, s, 0, 0) r := (by
    rw [fe_X12_remember] at h
    exact ga_T_go (sp := ga_sp []) (ga_sp_T (fun _ h => nomatch h)) (n := 600) h)
abbrev T_X12_setAbsent {α : Type} (P : ga_S) (K0 : ga_O → Option α) (cfg : ga_C) (r : α) : Prop := ga_T RX12 cX12_setAbsent (ga_lk cl_X12_setAbsent) gaG gaCost (fun _ => []) gaCls 83 0 0 false true true none (fun S _ => S = P) K0 cfg r
set_option maxRecDepth 100000 in
theorem t_X12_setAbsent (a : Int32) (b : Int32) (c : Int32) (s : ga_M) (r : Int32 × ga_M) (h : f_X12_setAbsent a b c s = some r) : T_X12_setAbsent gaSH ga_kI (0, [some (.ref 72), some (.int a), some (.int b), some (.int c)], [], gaSH, s, 0, 0) r := (by
    rw [fe_X12_setAbsent] at h
    exact ga_T_go (sp := ga_sp []) (ga_sp_T (fun _ h => nomatch h)) (n := 600) h)
abbrev T_X11_requireLesson {α : Type} (P : ga_S) (s0 : ga_M) (K0 : ga_O → Option α) (cfg : ga_C) (r : α) : Prop := ga_T RX11 cX11_requireLesson (ga_lk cl_X11_requireLesson) gaGP gaCost (fun _ => []) gaCls 83 1 6 false true false none (fun S σ => S = P ∧ σ = s0) K0 cfg r
set_option maxRecDepth 100000 in
theorem t_X11_requireLesson (a : Int32) (s : ga_M) (r : Option Nat) (h : f_X11_requireLesson a s = some r) : T_X11_requireLesson gaSH s gp_kVX (0, [some (.ref 0), some (.int a)], [], gaSH, s, 0, 0) r := (by
    rw [fe_X11_requireLesson] at h
    exact ga_T_go (sp := ga_sp []) (ga_sp_T (fun _ h => nomatch h)) (n := 600) h)
abbrev T_X11_keepUnlessRefused {α : Type} (P : ga_S) (K0 : ga_O → Option α) (cfg : ga_C) (r : α) : Prop := ga_T RX11 cX11_keepUnlessRefused (ga_lk cl_X11_keepUnlessRefused) gaG gaCost (fun _ => []) gaCls 83 1 6 false true true none (fun S _ => S = P) K0 cfg r
set_option maxRecDepth 100000 in
theorem t_X11_keepUnlessRefused (a : Int32) (s : ga_M) (r : Option Nat × ga_M) (h : f_X11_keepUnlessRefused a s = some r) : T_X11_keepUnlessRefused gaSH ga_kVX (0, [some (.ref 0), some (.int a)], [], gaSH, s, 0, 0) r := (by
    rw [fe_X11_keepUnlessRefused] at h
    exact ga_T_go (sp := ga_sp []) (ga_sp_T (fun _ h => nomatch h)) (n := 600) h)
abbrev T_X11_cover {α : Type} (P : ga_S) (K0 : ga_O → Option α) (cfg : ga_C) (r : α) : Prop := ga_T RX11 cX11_cover (ga_lk cl_X11_cover) gaG gaCost (fun _ => []) gaCls 83 3 18 false true true none (fun S _ => S = P) K0 cfg r
set_option maxRecDepth 100000 in
theorem t_X11_cover (a : Int32) (b : Int32) (s : ga_M) (r : (Int32 ⊕ Nat) × ga_M) (h : f_X11_cover a b s = some r) : T_X11_cover gaSH ga_kIX (0, [some (.ref 0), some (.int a), some (.int b)], [], gaSH, s, 0, 0) r := (by
    rw [fe_X11_cover] at h
    exact ga_T_go (sp := ga_sp []) (ga_sp_T (fun _ h => nomatch h)) (n := 600) h)
abbrev T_X12_cover {α : Type} (P : ga_S) (K0 : ga_O → Option α) (cfg : ga_C) (r : α) : Prop := ga_T RX12 cX12_cover (ga_lk cl_X12_cover) gaG gaCost (fun _ => []) gaCls 83 0 0 false true true none (fun S _ => S = P) K0 cfg r
set_option maxRecDepth 100000 in
theorem t_X12_cover (a : Int32) (b : Int32) (s : ga_M) (r : Int32 × ga_M) (h : f_X12_cover a b s = some r) : T_X12_cover gaSH ga_kI (0, [some (.ref 72), some (.int a), some (.int b)], [], gaSH, s, 0, 0) r := (by
    rw [fe_X12_cover] at h
    exact ga_T_go (sp := ga_sp []) (ga_sp_T (fun _ h => nomatch h)) (n := 600) h)
abbrev T_X3_dutiesOf {α : Type} (P : ga_S) (s0 : ga_M) (K0 : ga_O → Option α) (cfg : ga_C) (r : α) : Prop := ga_T RX3 cX3_dutiesOf (ga_lk cl_X3_dutiesOf) gaGP gaCost (fun _ => []) gaCls 83 0 0 false true false none (fun S σ => S = P ∧ σ = s0) K0 cfg r
set_option maxRecDepth 100000 in
theorem t_X3_dutiesOf_h4 (s0 : ga_M) : ∀ (n : Nat) (l1 : Int32) (l2 : Int32) (l3 : Int32) (S : ga_S) (s : ga_M) (r : Int32), f_X3_dutiesOf_h4 n l1 l2 l3 s = some r → T_X3_dutiesOf gaSH s0 gp_kI (4, [some (.ref 20), some (.int l1), some (.int l2), some (.int l3)], [], S, s, 0, 0) r := by
  intro n
  induction n with
  | zero => intro l1 l2 l3 S s r h; cases h
  | succ n ih => intro l1 l2 l3 S s r h; exact ga_T_S fun hS => (by
    obtain ⟨rfl, rfl⟩ := hS
    exact ga_T_go (sp := ga_sp [(4, 0, 0, fun L s => match L with
      | [some (.ref 20), some (.int l1), some (.int l2), some (.int l3)] => f_X3_dutiesOf_h4 n l1 l2 l3 s
      | _ => none)]) (ga_sp_T (List.forall_mem_cons.mpr ⟨fun L S s1 h => (by
      dsimp only at h
      split at h
      · exact ih _ _ _  S s1 _ h
      · cases h), fun _ h => nomatch h⟩)) (n := 600) h)
set_option maxRecDepth 100000 in
theorem t_X3_dutiesOf (a : Int32) (s : ga_M) (r : Int32) (h : f_X3_dutiesOf a s = some r) : T_X3_dutiesOf gaSH s gp_kI (0, [some (.ref 20), some (.int a), none, none], [], gaSH, s, 0, 0) r := (by
    rw [fe_X3_dutiesOf] at h
    exact ga_T_go (sp := ga_sp [(4, 0, 0, fun L s => match L with
      | [some (.ref 20), some (.int l1), some (.int l2), some (.int l3)] => f_X3_dutiesOf_h4 ga_fuel l1 l2 l3 s
      | _ => none)]) (ga_sp_T (List.forall_mem_cons.mpr ⟨fun L S s1 h => (by
      dsimp only at h
      split at h
      · exact t_X3_dutiesOf_h4 s ga_fuel _ _ _  S s1 _ h
      · cases h), fun _ h => nomatch h⟩)) (n := 600) h)
abbrev T_X11_supervise {α : Type} (P : ga_S) (K0 : ga_O → Option α) (cfg : ga_C) (r : α) : Prop := ga_T RX11 cX11_supervise (ga_lk cl_X11_supervise) gaG gaCost (fun _ => []) gaCls 83 3 18 false true true none (fun S _ => S = P) K0 cfg r
set_option maxRecDepth 100000 in
theorem t_X11_supervise (a : Int32) (b : Int32) (s : ga_M) (r : (Int32 ⊕ Nat) × ga_M) (h : f_X11_supervise a b s = some r) : T_X11_supervise gaSH ga_kIX (0, [some (.ref 0), some (.int a), some (.int b)], [], gaSH, s, 0, 0) r := (by
    rw [fe_X11_supervise] at h
    exact ga_T_go (sp := ga_sp []) (ga_sp_T (fun _ h => nomatch h)) (n := 600) h)
abbrev T_X12_supervise {α : Type} (P : ga_S) (K0 : ga_O → Option α) (cfg : ga_C) (r : α) : Prop := ga_T RX12 cX12_supervise (ga_lk cl_X12_supervise) gaG gaCost (fun _ => []) gaCls 83 0 0 false true true none (fun S _ => S = P) K0 cfg r
set_option maxRecDepth 100000 in
theorem t_X12_supervise (a : Int32) (b : Int32) (s : ga_M) (r : Int32 × ga_M) (h : f_X12_supervise a b s = some r) : T_X12_supervise gaSH ga_kI (0, [some (.ref 72), some (.int a), some (.int b)], [], gaSH, s, 0, 0) r := (by
    rw [fe_X12_supervise] at h
    exact ga_T_go (sp := ga_sp []) (ga_sp_T (fun _ h => nomatch h)) (n := 600) h)
abbrev T_X11_repair {α : Type} (P : ga_S) (K0 : ga_O → Option α) (cfg : ga_C) (r : α) : Prop := ga_T RX11 cX11_repair (ga_lk cl_X11_repair) gaG gaCost (fun _ => []) gaCls 83 2 12 false true true none (fun S _ => S = P) K0 cfg r
set_option maxRecDepth 100000 in
theorem t_X11_repair (a : Int32) (s : ga_M) (r : (Int32 ⊕ Nat) × ga_M) (h : f_X11_repair a s = some r) : T_X11_repair gaSH ga_kIX (0, [some (.ref 0), some (.int a)], [], gaSH, s, 0, 0) r := (by
    rw [fe_X11_repair] at h
    exact ga_T_go (sp := ga_sp []) (ga_sp_T (fun _ h => nomatch h)) (n := 600) h)
abbrev T_X12_repair {α : Type} (P : ga_S) (K0 : ga_O → Option α) (cfg : ga_C) (r : α) : Prop := ga_T RX12 cX12_repair (ga_lk cl_X12_repair) gaG gaCost (fun _ => []) gaCls 83 0 0 false true true none (fun S _ => S = P) K0 cfg r
set_option maxRecDepth 100000 in
theorem t_X12_repair (a : Int32) (s : ga_M) (r : Int32 × ga_M) (h : f_X12_repair a s = some r) : T_X12_repair gaSH ga_kI (0, [some (.ref 72), some (.int a)], [], gaSH, s, 0, 0) r := (by
    rw [fe_X12_repair] at h
    exact ga_T_go (sp := ga_sp []) (ga_sp_T (fun _ h => nomatch h)) (n := 600) h)
abbrev T_X11_repairAll {α : Type} (P : ga_S) (K0 : ga_O → Option α) (cfg : ga_C) (r : α) : Prop := ga_T RX11 cX11_repairAll (ga_lk cl_X11_repairAll) gaG gaCost (fun _ => []) gaCls 83 0 0 false true true none (fun S _ => S = P) K0 cfg r
set_option maxRecDepth 100000 in
theorem t_X11_repairAll (s : ga_M) (r : Int32 × ga_M) (h : f_X11_repairAll s = some r) : T_X11_repairAll gaSH ga_kI (0, [some (.ref 0), none], [], gaSH, s, 0, 0) r := (by
    rw [fe_X11_repairAll] at h
    exact ga_T_go (sp := ga_sp []) (ga_sp_T (fun _ h => nomatch h)) (n := 600) h)
abbrev T_X12_repairAll {α : Type} (P : ga_S) (K0 : ga_O → Option α) (cfg : ga_C) (r : α) : Prop := ga_T RX12 cX12_repairAll (ga_lk cl_X12_repairAll) gaG gaCost (fun _ => []) gaCls 83 0 0 false true true none (fun S _ => S = P) K0 cfg r
set_option maxRecDepth 100000 in
theorem t_X12_repairAll (s : ga_M) (r : Int32 × ga_M) (h : f_X12_repairAll s = some r) : T_X12_repairAll gaSH ga_kI (0, [some (.ref 72)], [], gaSH, s, 0, 0) r := (by
    rw [fe_X12_repairAll] at h
    exact ga_T_go (sp := ga_sp []) (ga_sp_T (fun _ h => nomatch h)) (n := 600) h)
abbrev T_X11_exchange {α : Type} (P : ga_S) (K0 : ga_O → Option α) (cfg : ga_C) (r : α) : Prop := ga_T RX11 cX11_exchange (ga_lk cl_X11_exchange) gaG gaCost (fun _ => []) gaCls 83 3 18 false true true none (fun S _ => S = P) K0 cfg r
set_option maxRecDepth 100000 in
theorem t_X11_exchange (a : Int32) (b : Int32) (s : ga_M) (r : (Int32 ⊕ Nat) × ga_M) (h : f_X11_exchange a b s = some r) : T_X11_exchange gaSH ga_kIX (0, [some (.ref 0), some (.int a), some (.int b)], [], gaSH, s, 0, 0) r := (by
    rw [fe_X11_exchange] at h
    exact ga_T_go (sp := ga_sp []) (ga_sp_T (fun _ h => nomatch h)) (n := 600) h)
abbrev T_X12_exchange {α : Type} (P : ga_S) (K0 : ga_O → Option α) (cfg : ga_C) (r : α) : Prop := ga_T RX12 cX12_exchange (ga_lk cl_X12_exchange) gaG gaCost (fun _ => []) gaCls 83 0 0 false true true none (fun S _ => S = P) K0 cfg r
set_option maxRecDepth 100000 in
theorem t_X12_exchange (a : Int32) (b : Int32) (s : ga_M) (r : Int32 × ga_M) (h : f_X12_exchange a b s = some r) : T_X12_exchange gaSH ga_kI (0, [some (.ref 72), some (.int a), some (.int b)], [], gaSH, s, 0, 0) r := (by
    rw [fe_X12_exchange] at h
    exact ga_T_go (sp := ga_sp []) (ga_sp_T (fun _ h => nomatch h)) (n := 600) h)
