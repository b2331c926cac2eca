abbrev T_X11_whyNotExchange {α : Type} (P : ga_S) (s0 : ga_M) (K0 : ga_O → Option α) (cfg : ga_C) (r : α) : Prop := ga_T RX11 cX11_whyNotExchange (ga_lk cl_X11_whyNotExchange) gaGP gaCost (fun _ => []) gaCls 83 2 12 false true false none (fun S σ => S = P ∧ σ = s0) K0 cfg r
set_option maxRecDepth 100000 in
theorem t_X11_whyNotExchange (a : Int32) (b : Int32) (s : ga_M) (r : Int32 ⊕ Nat) (h : f_X11_whyNotExchange a b s = some r) : T_X11_whyNotExchange gaSH s gp_kIX (0, [some (.ref 0), some (.int a), some (.int b)], [], gaSH, s, 0, 0) r := (by
    rw [fe_X11_whyNotExchange] at h
    exact ga_T_go (sp := ga_sp []) (ga_sp_T (fun _ h => nomatch h)) (n := 600) h)
abbrev T_X12_whyNotExchange {α : Type} (P : ga_S) (K0 : ga_O → Option α) (cfg : ga_C) (r : α) : Prop := ga_T RX12 cX12_whyNotExchange (ga_lk cl_X12_whyNotExchange) gaG gaCost (fun _ => []) gaCls 83 0 0 false true true none (fun S _ => S = P) K0 cfg r
set_option maxRecDepth 100000 in
theorem t_X12_whyNotExchange (a : Int32) (b : Int32) (s : ga_M) (r : Int32 × ga_M) (h : f_X12_whyNotExchange a b s = some r) : T_X12_whyNotExchange gaSH ga_kI (0, [some (.ref 72), some (.int a), some (.int b)], [], gaSH, s, 0, 0) r := (by
    rw [fe_X12_whyNotExchange] at h
    exact ga_T_go (sp := ga_sp []) (ga_sp_T (fun _ h => nomatch h)) (n := 600) h)
abbrev T_X11_whyNotMove {α : Type} (P : ga_S) (s0 : ga_M) (K0 : ga_O → Option α) (cfg : ga_C) (r : α) : Prop := ga_T RX11 cX11_whyNotMove (ga_lk cl_X11_whyNotMove) gaGP gaCost (fun _ => []) gaCls 83 2 12 false true false none (fun S σ => S = P ∧ σ = s0) K0 cfg r
set_option maxRecDepth 100000 in
theorem t_X11_whyNotMove (a : Int32) (b : Int32) (s : ga_M) (r : Int32 ⊕ Nat) (h : f_X11_whyNotMove a b s = some r) : T_X11_whyNotMove gaSH s gp_kIX (0, [some (.ref 0), some (.int a), some (.int b)], [], gaSH, s, 0, 0) r := (by
    rw [fe_X11_whyNotMove] at h
    exact ga_T_go (sp := ga_sp []) (ga_sp_T (fun _ h => nomatch h)) (n := 600) h)
abbrev T_X12_whyNotMove {α : Type} (P : ga_S) (K0 : ga_O → Option α) (cfg : ga_C) (r : α) : Prop := ga_T RX12 cX12_whyNotMove (ga_lk cl_X12_whyNotMove) gaG gaCost (fun _ => []) gaCls 83 0 0 false true true none (fun S _ => S = P) K0 cfg r
set_option maxRecDepth 100000 in
theorem t_X12_whyNotMove (a : Int32) (b : Int32) (s : ga_M) (r : Int32 × ga_M) (h : f_X12_whyNotMove a b s = some r) : T_X12_whyNotMove gaSH ga_kI (0, [some (.ref 72), some (.int a), some (.int b)], [], gaSH, s, 0, 0) r := (by
    rw [fe_X12_whyNotMove] at h
    exact ga_T_go (sp := ga_sp []) (ga_sp_T (fun _ h => nomatch h)) (n := 600) h)
abbrev T_X11_whyNotRoom {α : Type} (P : ga_S) (s0 : ga_M) (K0 : ga_O → Option α) (cfg : ga_C) (r : α) : Prop := ga_T RX11 cX11_whyNotRoom (ga_lk cl_X11_whyNotRoom) gaGP gaCost (fun _ => []) gaCls 83 2 12 false true false none (fun S σ => S = P ∧ σ = s0) K0 cfg r
set_option maxRecDepth 100000 in
theorem t_X11_whyNotRoom (a : Int32) (b : Int32) (s : ga_M) (r : Int32 ⊕ Nat) (h : f_X11_whyNotRoom a b s = some r) : T_X11_whyNotRoom gaSH s gp_kIX (0, [some (.ref 0), some (.int a), some (.int b)], [], gaSH, s, 0, 0) r := (by
    rw [fe_X11_whyNotRoom] at h
    exact ga_T_go (sp := ga_sp []) (ga_sp_T (fun _ h => nomatch h)) (n := 600) h)
abbrev T_X12_whyNotRoom {α : Type} (P : ga_S) (K0 : ga_O → Option α) (cfg : ga_C) (r : α) : Prop := ga_T RX12 cX12_whyNotRoom (ga_lk cl_X12_whyNotRoom) gaG gaCost (fun _ => []) gaCls 83 0 0 false true true none (fun S _ => S = P) K0 cfg r
set_option maxRecDepth 100000 in
theorem t_X12_whyNotRoom (a : Int32) (b : Int32) (s : ga_M) (r : Int32 × ga_M) (h : f_X12_whyNotRoom a b s = some r) : T_X12_whyNotRoom gaSH ga_kI (0, [some (.ref 72), some (.int a), some (.int b)], [], gaSH, s, 0, 0) r := (by
    rw [fe_X12_whyNotRoom] at h
    exact ga_T_go (sp := ga_sp []) (ga_sp_T (fun _ h => nomatch h)) (n := 600) h)
abbrev T_X11_candidates {α : Type} (P : ga_S) (s0 : ga_M) (K0 : ga_O → Option α) (cfg : ga_C) (r : α) : Prop := ga_T RX11 cX11_candidates (ga_lk cl_X11_candidates) gaGP gaCost (fun _ => []) gaCls 83 1 6 false true false none (fun S σ => S = P ∧ σ = s0) K0 cfg r
set_option maxRecDepth 100000 in
theorem t_X11_candidates_h9 (s0 : ga_M) : ∀ (n : Nat) (l1 : Int32) (l2 : Int32) (l3 : Int32) (S : ga_S) (s : ga_M) (r : Int32 ⊕ Nat), f_X11_candidates_h9 n l1 l2 l3 s = some r → T_X11_candidates gaSH s0 gp_kIX (9, [some (.ref 0), some (.int l1), some (.int l2), some (.int l3)], [], S, s, 1, 6) r := by
  intro n
  induction n with
  | zero => intro l1 l2 l3 S s r h; cases h
  | succ n ih => intro l1 l2 l3 S s r h; exact ga_T_S fun hS => (by
    obtain ⟨rfl, rfl⟩ := hS
    exact ga_T_go (sp := ga_sp [(9, 1, 6, fun L s => match L with
      | [some (.ref 0), some (.int l1), some (.int l2), some (.int l3)] => f_X11_candidates_h9 n l1 l2 l3 s
      | _ => none)]) (ga_sp_T (List.forall_mem_cons.mpr ⟨fun L S s1 h => (by
      dsimp only at h
      split at h
      · exact ih _ _ _  S s1 _ h
      · cases h), fun _ h => nomatch h⟩)) (n := 600) h)
set_option maxRecDepth 100000 in
theorem t_X11_candidates (a : Int32) (s : ga_M) (r : Int32 ⊕ Nat) (h : f_X11_candidates a s = some r) : T_X11_candidates gaSH s gp_kIX (0, [some (.ref 0), some (.int a), none, none], [], gaSH, s, 0, 0) r := (by
    rw [fe_X11_candidates] at h
    exact ga_T_go (sp := ga_sp [(9, 1, 6, fun L s => match L with
      | [some (.ref 0), some (.int l1), some (.int l2), some (.int l3)] => f_X11_candidates_h9 ga_fuel l1 l2 l3 s
      | _ => none)]) (ga_sp_T (List.forall_mem_cons.mpr ⟨fun L S s1 h => (by
      dsimp only at h
      split at h
      · exact t_X11_candidates_h9 s ga_fuel _ _ _  S s1 _ h
      · cases h), fun _ h => nomatch h⟩)) (n := 600) h)
abbrev T_X12_candidates {α : Type} (P : ga_S) (K0 : ga_O → Option α) (cfg : ga_C) (r : α) : Prop := ga_T RX12 cX12_candidates (ga_lk cl_X12_candidates) gaG gaCost (fun _ => []) gaCls 83 0 0 false true true none (fun S _ => S = P) K0 cfg r
set_option maxRecDepth 100000 in
theorem t_X12_candidates_h27 : ∀ (n : Nat) (l1 : Int32) (l2 : Int32) (l3 : Int32) (S : ga_S) (s : ga_M) (r : Int32 × ga_M), f_X12_candidates_h27 n l1 l2 l3 s = some r → T_X12_candidates gaSH ga_kI (27, [some (.ref 72), some (.int l1), some (.int l2), some (.int l3)], [], S, s, 0, 0) r := by
  intro n
  induction n with
  | zero => intro l1 l2 l3 S s r h; cases h
  | succ n ih => intro l1 l2 l3 S s r h; exact ga_T_S fun hS => (by
    cases hS
    exact ga_T_go (sp := ga_sp [(27, 0, 0, fun L s => match L with
      | [some (.ref 72), some (.int l1), some (.int l2), some (.int l3)] => f_X12_candidates_h27 n l1 l2 l3 s
      | _ => none)]) (ga_sp_T (List.forall_mem_cons.mpr ⟨fun L S s1 h => (by
      dsimp only at h
      split at h
      · exact ih _ _ _  S s1 _ h
      · cases h), fun _ h => nomatch h⟩)) (n := 600) h)
set_option maxRecDepth 100000 in
theorem t_X12_candidates (a : Int32) (s : ga_M) (r : Int32 × ga_M) (h : f_X12_candidates a s = some r) : T_X12_candidates gaSH ga_kI (0, [some (.ref 72), some (.int a), none, none], [], gaSH, s, 0, 0) r := (by
    rw [fe_X12_candidates] at h
    exact ga_T_go (sp := ga_sp [(27, 0, 0, fun L s => match L with
      | [some (.ref 72), some (.int l1), some (.int l2), some (.int l3)] => f_X12_candidates_h27 ga_fuel l1 l2 l3 s
      | _ => none)]) (ga_sp_T (List.forall_mem_cons.mpr ⟨fun L S s1 h => (by
      dsimp only at h
      split at h
      · exact t_X12_candidates_h27 ga_fuel _ _ _  S s1 _ h
      · cases h), fun _ h => nomatch h⟩)) (n := 600) h)
abbrev T_X11_chain {α : Type} (P : ga_S) (K0 : ga_O → Option α) (cfg : ga_C) (r : α) : Prop := ga_T RX11 cX11_chain (ga_lk cl_X11_chain) gaG gaCost (fun _ => []) gaCls 83 1 6 false true true none (fun S _ => S = P) K0 cfg r
set_option maxRecDepth 100000 in
theorem t_X11_chain (a : Int32) (s : ga_M) (r : (Int32 ⊕ Nat) × ga_M) (h : f_X11_chain a s = some r) : T_X11_chain gaSH ga_kIX (0, [some (.ref 0), some (.int a)], [], gaSH, s, 0, 0) r := (by
    rw [fe_X11_chain] at h
    exact ga_T_go (sp := ga_sp []) (ga_sp_T (fun _ h => nomatch h)) (n := 600) h)
abbrev T_X12_chain {α : Type} (P : ga_S) (K0 : ga_O → Option α) (cfg : ga_C) (r : α) : Prop := ga_T RX12 cX12_chain (ga_lk cl_X12_chain) gaG gaCost (fun _ => []) gaCls 83 0 0 false true true none (fun S _ => S = P) K0 cfg r
set_option maxRecDepth 100000 in
theorem t_X12_chain (a : Int32) (s : ga_M) (r : Int32 × ga_M) (h : f_X12_chain a s = some r) : T_X12_chain gaSH ga_kI (0, [some (.ref 72), some (.int a)], [], gaSH, s, 0, 0) r := (by
    rw [fe_X12_chain] at h
    exact ga_T_go (sp := ga_sp []) (ga_sp_T (fun _ h => nomatch h)) (n := 600) h)
abbrev T_X11_chainTeacher {α : Type} (P : ga_S) (K0 : ga_O → Option α) (cfg : ga_C) (r : α) : Prop := ga_T RX11 cX11_chainTeacher (ga_lk cl_X11_chainTeacher) gaG gaCost (fun _ => []) gaCls 83 2 12 false true true none (fun S _ => S = P) K0 cfg r
set_option maxRecDepth 100000 in
theorem t_X11_chainTeacher (a : Int32) (b : Int32) (s : ga_M) (r : (Int32 ⊕ Nat) × ga_M) (h : f_X11_chainTeacher a b s = some r) : T_X11_chainTeacher gaSH ga_kIX (0, [some (.ref 0), some (.int a), some (.int b), none], [], gaSH, s, 0, 0) r := (by
    rw [fe_X11_chainTeacher] at h
    exact ga_T_go (sp := ga_sp []) (ga_sp_T (fun _ h => nomatch h)) (n := 600) h)
abbrev T_X12_chainTeacher {α : Type} (P : ga_S) (K0 : ga_O → Option α) (cfg : ga_C) (r : α) : Prop := ga_T RX12 cX12_chainTeacher (ga_lk cl_X12_chainTeacher) gaG gaCost (fun _ => []) gaCls 83 0 0 false true true none (fun S _ => S = P) K0 cfg r
set_option maxRecDepth 100000 in
theorem t_X12_chainTeacher (a : Int32) (b : Int32) (s : ga_M) (r : Int32 × ga_M) (h : f_X12_chainTeacher a b s = some r) : T_X12_chainTeacher gaSH ga_kI (0, [some (.ref 72), some (.int a), some (.int b)], [], gaSH, s, 0, 0) r := (by
    rw [fe_X12_chainTeacher] at h
    exact ga_T_go (sp := ga_sp []) (ga_sp_T (fun _ h => nomatch h)) (n := 600) h)
abbrev T_X11_partners {α : Type} (P : ga_S) (s0 : ga_M) (K0 : ga_O → Option α) (cfg : ga_C) (r : α) : Prop := ga_T RX11 cX11_partners (ga_lk cl_X11_partners) gaGP gaCost (fun _ => []) gaCls 83 1 6 false true false none (fun S σ => S = P ∧ σ = s0) K0 cfg r
set_option maxRecDepth 100000 in
theorem t_X11_partners_h9 (s0 : ga_M) : ∀ (n : Nat) (l1 : Int32) (l2 : Int32) (l3 : Int32) (S : ga_S) (s : ga_M) (r : Int32 ⊕ Nat), f_X11_partners_h9 n l1 l2 l3 s = some r → T_X11_partners gaSH s0 gp_kIX (9, [some (.ref 0), some (.int l1), some (.int l2), some (.int l3)], [], S, s, 1, 6) r := by
  intro n
  induction n with
  | zero => intro l1 l2 l3 S s r h; cases h
  | succ n ih => intro l1 l2 l3 S s r h; exact ga_T_S fun hS => (by
    obtain ⟨rfl, rfl⟩ := hS
    exact ga_T_go (sp := ga_sp [(9, 1, 6, fun L s => match L with
      | [some (.ref 0), some (.int l1), some (.int l2), some (.int l3)] => f_X11_partners_h9 n l1 l2 l3 s
      | _ => none)]) (ga_sp_T (List.forall_mem_cons.mpr ⟨fun L S s1 h => (by
      dsimp only at h
      split at h
      · exact ih _ _ _  S s1 _ h
      · cases h), fun _ h => nomatch h⟩)) (n := 600) h)
set_option maxRecDepth 100000 in
theorem t_X11_partners (a : Int32) (s : ga_M) (r : Int32 ⊕ Nat) (h : f_X11_partners a s = some r) : T_X11_partners gaSH s gp_kIX (0, [some (.ref 0), some (.int a), none, none], [], gaSH, s, 0, 0) r := (by
    rw [fe_X11_partners] at h
    exact ga_T_go (sp := ga_sp [(9, 1, 6, fun L s => match L with
      | [some (.ref 0), some (.int l1), some (.int l2), some (.int l3)] => f_X11_partners_h9 ga_fuel l1 l2 l3 s
      | _ => none)]) (ga_sp_T (List.forall_mem_cons.mpr ⟨fun L S s1 h => (by
      dsimp only at h
      split at h
      · exact t_X11_partners_h9 s ga_fuel _ _ _  S s1 _ h
      · cases h), fun _ h => nomatch h⟩)) (n := 600) h)
abbrev T_X12_partnerOf {α : Type} (P : ga_S) (s0 : ga_M) (K0 : ga_O → Option α) (cfg : ga_C) (r : α) : Prop := ga_T RX12 cX12_partnerOf (ga_lk cl_X12_partnerOf) gaGP gaCost (fun _ => []) gaCls 83 0 0 false true false none (fun S σ => S = P ∧ σ = s0) K0 cfg r
set_option maxRecDepth 100000 in
theorem t_X12_partnerOf_h5 (s0 : ga_M) : ∀ (n : Nat) (l1 : Int32) (l2 : Int32) (l3 : Int32) (l4 : Int32) (S : ga_S) (s : ga_M) (r : Int32), f_X12_partnerOf_h5 n l1 l2 l3 l4 s = some r → T_X12_partnerOf gaSH s0 gp_kI (5, [some (.ref 72), some (.int l1), some (.int l2), some (.int l3), some (.int l4)], [], S, s, 0, 0) r := by
  intro n
  induction n with
  | zero => intro l1 l2 l3 l4 S s r h; cases h
  | succ n ih => intro l1 l2 l3 l4 S s r h; exact ga_T_S fun hS => (by
    obtain ⟨rfl, rfl⟩ := hS
    exact ga_T_go (sp := ga_sp [(5, 0, 0, fun L s => match L with
      | [some (.ref 72), some (.int l1), some (.int l2), some (.int l3), some (.int l4)] => f_X12_partnerOf_h5 n l1 l2 l3 l4 s
      | _ => none)]) (ga_sp_T (List.forall_mem_cons.mpr ⟨fun L S s1 h => (by
      dsimp only at h
      split at h
      · exact ih _ _ _ _  S s1 _ h
      · cases h), fun _ h => nomatch h⟩)) (n := 600) h)
set_option maxRecDepth 100000 in
theorem t_X12_partnerOf (a : Int32) (b : Int32) (s : ga_M) (r : Int32) (h : f_X12_partnerOf a b s = some r) : T_X12_partnerOf gaSH s gp_kI (0, [some (.ref 72), some (.int a), some (.int b), none, none], [], gaSH, s, 0, 0) r := (by
    rw [fe_X12_partnerOf] at h
    exact ga_T_go (sp := ga_sp [(5, 0, 0, fun L s => match L with
      | [some (.ref 72), some (.int l1), some (.int l2), some (.int l3), some (.int l4)] => f_X12_partnerOf_h5 ga_fuel l1 l2 l3 l4 s
      | _ => none)]) (ga_sp_T (List.forall_mem_cons.mpr ⟨fun L S s1 h => (by
      dsimp only at h
      split at h
      · exact t_X12_partnerOf_h5 s ga_fuel _ _ _ _  S s1 _ h
      · cases h), fun _ h => nomatch h⟩)) (n := 600) h)
abbrev T_X12_partners {α : Type} (P : ga_S) (K0 : ga_O → Option α) (cfg : ga_C) (r : α) : Prop := ga_T RX12 cX12_partners (ga_lk cl_X12_partners) gaG gaCost (fun _ => []) gaCls 83 0 0 false true true none (fun S _ => S = P) K0 cfg r
set_option maxRecDepth 100000 in
theorem t_X12_partners (a : Int32) (s : ga_M) (r : Int32 × ga_M) (h : f_X12_partners a s = some r) : T_X12_partners gaSH ga_kI (0, [some (.ref 72), some (.int a)], [], gaSH, s, 0, 0) r := (by
    rw [fe_X12_partners] at h
    exact ga_T_go (sp := ga_sp []) (ga_sp_T (fun _ h => nomatch h)) (n := 600) h)
abbrev T_X11_firstPartner {α : Type} (P : ga_S) (s0 : ga_M) (K0 : ga_O → Option α) (cfg : ga_C) (r : α) : Prop := ga_T RX11 cX11_firstPartner (ga_lk cl_X11_firstPartner) gaGP gaCost (fun _ => []) gaCls 83 2 12 false true false none (fun S σ => S = P ∧ σ = s0) K0 cfg r
set_option maxRecDepth 100000 in
theorem t_X11_firstPartner_h7 (s0 : ga_M) : ∀ (n : Nat) (l1 : Int32) (l2 : Int32) (S : ga_S) (s : ga_M) (r : Int32 ⊕ Nat), f_X11_firstPartner_h7 n l1 l2 s = some r → T_X11_firstPartner gaSH s0 gp_kIX (7, [some (.ref 0), some (.int l1), some (.int l2)], [], S, s, 1, 6) r := by
  intro n
  induction n with
  | zero => intro l1 l2 S s r h; cases h
  | succ n ih => intro l1 l2 S s r h; exact ga_T_S fun hS => (by
    obtain ⟨rfl, rfl⟩ := hS
    exact ga_T_go (sp := ga_sp [(7, 1, 6, fun L s => match L with
      | [some (.ref 0), some (.int l1), some (.int l2)] => f_X11_firstPartner_h7 n l1 l2 s
      | _ => none)]) (ga_sp_T (List.forall_mem_cons.mpr ⟨fun L S s1 h => (by
      dsimp only at h
      split at h
      · exact ih _ _  S s1 _ h
      · cases h), fun _ h => nomatch h⟩)) (n := 600) h)
set_option maxRecDepth 100000 in
theorem t_X11_firstPartner (a : Int32) (s : ga_M) (r : Int32 ⊕ Nat) (h : f_X11_firstPartner a s = some r) : T_X11_firstPartner gaSH s gp_kIX (0, [some (.ref 0), some (.int a), none], [], gaSH, s, 0, 0) r := (by
    rw [fe_X11_firstPartner] at h
    exact ga_T_go (sp := ga_sp [(7, 1, 6, fun L s => match L with
      | [some (.ref 0), some (.int l1), some (.int l2)] => f_X11_firstPartner_h7 ga_fuel l1 l2 s
      | _ => none)]) (ga_sp_T (List.forall_mem_cons.mpr ⟨fun L S s1 h => (by
      dsimp only at h
      split at h
      · exact t_X11_firstPartner_h7 s ga_fuel _ _  S s1 _ h
      · cases h), fun _ h => nomatch h⟩)) (n := 600) h)
abbrev T_X12_firstPartner {α : Type} (P : ga_S) (K0 : ga_O → Option α) (cfg : ga_C) (r : α) : Prop := ga_T RX12 cX12_firstPartner (ga_lk cl_X12_firstPartner) gaG gaCost (fun _ => []) gaCls 83 0 0 false true true none (fun S _ => S = P) K0 cfg r
set_option maxRecDepth 100000 in
theorem t_X12_firstPartner (a : Int32) (s : ga_M) (r : Int32 × ga_M) (h : f_X12_firstPartner a s = some r) : T_X12_firstPartner gaSH ga_kI (0, [some (.ref 72), some (.int a), none], [], gaSH, s, 0, 0) r := (by
    rw [fe_X12_firstPartner] at h
    exact ga_T_go (sp := ga_sp []) (ga_sp_T (fun _ h => nomatch h)) (n := 600) h)
abbrev T_X11_slotsFor {α : Type} (P : ga_S) (s0 : ga_M) (K0 : ga_O → Option α) (cfg : ga_C) (r : α) : Prop := ga_T RX11 cX11_slotsFor (ga_lk cl_X11_slotsFor) gaGP gaCost (fun _ => []) gaCls 83 1 6 false true false none (fun S σ => S = P ∧ σ = s0) K0 cfg r
set_option maxRecDepth 100000 in
theorem t_X11_slotsFor_h9 (s0 : ga_M) : ∀ (n : Nat) (l1 : Int32) (l2 : Int32) (l3 : Int32) (S : ga_S) (s : ga_M) (r : Int32 ⊕ Nat), f_X11_slotsFor_h9 n l1 l2 l3 s = some r → T_X11_slotsFor gaSH s0 gp_kIX (9, [some (.ref 0), some (.int l1), some (.int l2), some (.int l3)], [], S, s, 1, 6) r := by
  intro n
  induction n with
  | zero => intro l1 l2 l3 S s r h; cases h
  | succ n ih => intro l1 l2 l3 S s r h; exact ga_T_S fun hS => (by
    obtain ⟨rfl, rfl⟩ := hS
    exact ga_T_go (sp := ga_sp [(9, 1, 6, fun L s => match L with
      | [some (.ref 0), some (.int l1), some (.int l2), some (.int l3)] => f_X11_slotsFor_h9 n l1 l2 l3 s
      | _ => none)]) (ga_sp_T (List.forall_mem_cons.mpr ⟨fun L S s1 h => (by
      dsimp only at h
      split at h
      · exact ih _ _ _  S s1 _ h
      · cases h), fun _ h => nomatch h⟩)) (n := 600) h)
set_option maxRecDepth 100000 in
theorem t_X11_slotsFor (a : Int32) (s : ga_M) (r : Int32 ⊕ Nat) (h : f_X11_slotsFor a s = some r) : T_X11_slotsFor gaSH s gp_kIX (0, [some (.ref 0), some (.int a), none, none], [], gaSH, s, 0, 0) r := (by
    rw [fe_X11_slotsFor] at h
    exact ga_T_go (sp := ga_sp [(9, 1, 6, fun L s => match L with
      | [some (.ref 0), some (.int l1), some (.int l2), some (.int l3)] => f_X11_slotsFor_h9 ga_fuel l1 l2 l3 s
      | _ => none)]) (ga_sp_T (List.forall_mem_cons.mpr ⟨fun L S s1 h => (by
      dsimp only at h
      split at h
      · exact t_X11_slotsFor_h9 s ga_fuel _ _ _  S s1 _ h
      · cases h), fun _ h => nomatch h⟩)) (n := 600) h)
abbrev T_X12_slotsFor {α : Type} (P : ga_S) (K0 : ga_O → Option α) (cfg : ga_C) (r : α) : Prop := ga_T RX12 cX12_slotsFor (ga_lk cl_X12_slotsFor) gaG gaCost (fun _ => []) gaCls 83 0 0 false true true none (fun S _ => S = P) K0 cfg r
set_option maxRecDepth 100000 in
theorem t_X12_slotsFor_h27 : ∀ (n : Nat) (l1 : Int32) (l2 : Int32) (l3 : Int32) (S : ga_S) (s : ga_M) (r : Int32 × ga_M), f_X12_slotsFor_h27 n l1 l2 l3 s = some r → T_X12_slotsFor gaSH ga_kI (27, [some (.ref 72), some (.int l1), some (.int l2), some (.int l3)], [], S, s, 0, 0) r := by
  intro n
  induction n with
  | zero => intro l1 l2 l3 S s r h; cases h
  | succ n ih => intro l1 l2 l3 S s r h; exact ga_T_S fun hS => (by
    cases hS
    exact ga_T_go (sp := ga_sp [(27, 0, 0, fun L s => match L with
      | [some (.ref 72), some (.int l1), some (.int l2), some (.int l3)] => f_X12_slotsFor_h27 n l1 l2 l3 s
      | _ => none)]) (ga_sp_T (List.forall_mem_cons.mpr ⟨fun L S s1 h => (by
      dsimp only at h
      split at h
      · exact ih _ _ _  S s1 _ h
      · cases h), fun _ h => nomatch h⟩)) (n := 600) h)
set_option maxRecDepth 100000 in
theorem t_X12_slotsFor (a : Int32) (s : ga_M) (r : Int32 × ga_M) (h : f_X12_slotsFor a s = some r) : T_X12_slotsFor gaSH ga_kI (0, [some (.ref 72), some (.int a), none, none], [], gaSH, s, 0, 0) r := (by
    rw [fe_X12_slotsFor] at h
    exact ga_T_go (sp := ga_sp [(27, 0, 0, fun L s => match L with
      | [some (.ref 72), some (.int l1), some (.int l2), some (.int l3)] => f_X12_slotsFor_h27 ga_fuel l1 l2 l3 s
      | _ => none)]) (ga_sp_T (List.forall_mem_cons.mpr ⟨fun L S s1 h => (by
      dsimp only at h
      split at h
      · exact t_X12_slotsFor_h27 ga_fuel _ _ _  S s1 _ h
      · cases h), fun _ h => nomatch h⟩)) (n := 600) h)
abbrev T_X7_lessonsWith {α : Type} (P : ga_S) (s0 : ga_M) (K0 : ga_O → Option α) (cfg : ga_C) (r : α) : Prop := ga_T RX7 cX7_lessonsWith (ga_lk cl_X7_lessonsWith) gaGP gaCost (fun _ => []) gaCls 83 0 0 false true false none (fun S σ => S = P ∧ σ = s0) K0 cfg r
set_option maxRecDepth 100000 in
theorem t_X7_lessonsWith_27_h5 (s0 : ga_M) : ∀ (n : Nat) (l2 : Int32) (l3 : Int32) (l4 : Int32) (S : ga_S) (s : ga_M) (r : Int32), f_X7_lessonsWith_27_h5 n l2 l3 l4 s = some r → T_X7_lessonsWith gaSH s0 gp_kI (5, [some (.ref 1), some (.ref 27), some (.int l2), some (.int l3), some (.int l4)], [], S, s, 0, 0) r := by
  intro n
  induction n with
  | zero => intro l2 l3 l4 S s r h; cases h
  | succ n ih => intro l2 l3 l4 S s r h; exact ga_T_S fun hS => (by
    obtain ⟨rfl, rfl⟩ := hS
    exact ga_T_go (sp := ga_sp [(5, 0, 0, fun L s => match L with
      | [some (.ref 1), some (.ref 27), some (.int l2), some (.int l3), some (.int l4)] => f_X7_lessonsWith_27_h5 n l2 l3 l4 s
      | _ => none)]) (ga_sp_T (List.forall_mem_cons.mpr ⟨fun L S s1 h => (by
      dsimp only at h
      split at h
      · exact ih _ _ _  S s1 _ h
      · cases h), fun _ h => nomatch h⟩)) (n := 600) h)
set_option maxRecDepth 100000 in
theorem t_X7_lessonsWith_27 (a : Int32) (s : ga_M) (r : Int32) (h : f_X7_lessonsWith_27 a s = some r) : T_X7_lessonsWith gaSH s gp_kI (0, [some (.ref 1), some (.ref 27), some (.int a), none, none], [], gaSH, s, 0, 0) r := (by
    rw [fe_X7_lessonsWith_27] at h
    exact ga_T_go (sp := ga_sp [(5, 0, 0, fun L s => match L with
      | [some (.ref 1), some (.ref 27), some (.int l2), some (.int l3), some (.int l4)] => f_X7_lessonsWith_27_h5 ga_fuel l2 l3 l4 s
      | _ => none)]) (ga_sp_T (List.forall_mem_cons.mpr ⟨fun L S s1 h => (by
      dsimp only at h
      split at h
      · exact t_X7_lessonsWith_27_h5 s ga_fuel _ _ _  S s1 _ h
      · cases h), fun _ h => nomatch h⟩)) (n := 600) h)
abbrev T_X3_supervisedLessons {α : Type} (P : ga_S) (s0 : ga_M) (K0 : ga_O → Option α) (cfg : ga_C) (r : α) : Prop := ga_T RX3 cX3_supervisedLessons (ga_lk cl_X3_supervisedLessons) gaGP gaCost (fun _ => []) gaCls 83 0 0 false true false none (fun S σ => S = P ∧ σ = s0) K0 cfg r
set_option maxRecDepth 100000 in
theorem t_X3_supervisedLessons (s : ga_M) (r : Int32) (h : f_X3_supervisedLessons s = some r) : T_X3_supervisedLessons gaSH s gp_kI (0, [some (.ref 20)], [], gaSH, s, 0, 0) r := (by
    rw [fe_X3_supervisedLessons] at h
    exact ga_T_go (sp := ga_sp []) (ga_sp_T (fun _ h => nomatch h)) (n := 600) h)
set_option maxRecDepth 100000 in
theorem t_X7_lessonsWith_23_h5 (s0 : ga_M) : ∀ (n : Nat) (l2 : Int32) (l3 : Int32) (l4 : Int32) (S : ga_S) (s : ga_M) (r : Int32), f_X7_lessonsWith_23_h5 n l2 l3 l4 s = some r → T_X7_lessonsWith gaSH s0 gp_kI (5, [some (.ref 1), some (.ref 23), some (.int l2), some (.int l3), some (.int l4)], [], S, s, 0, 0) r := by
  intro n
  induction n with
  | zero => intro l2 l3 l4 S s r h; cases h
  | succ n ih => intro l2 l3 l4 S s r h; exact ga_T_S fun hS => (by
    obtain ⟨rfl, rfl⟩ := hS
    exact ga_T_go (sp := ga_sp [(5, 0, 0, fun L s => match L with
      | [some (.ref 1), some (.ref 23), some (.int l2), some (.int l3), some (.int l4)] => f_X7_lessonsWith_23_h5 n l2 l3 l4 s
      | _ => none)]) (ga_sp_T (List.forall_mem_cons.mpr ⟨fun L S s1 h => (by
      dsimp only at h
      split at h
      · exact ih _ _ _  S s1 _ h
      · cases h), fun _ h => nomatch h⟩)) (n := 600) h)
set_option maxRecDepth 100000 in
theorem t_X7_lessonsWith_23 (a : Int32) (s : ga_M) (r : Int32) (h : f_X7_lessonsWith_23 a s = some r) : T_X7_lessonsWith gaSH s gp_kI (0, [some (.ref 1), some (.ref 23), some (.int a), none, none], [], gaSH, s, 0, 0) r := (by
    rw [fe_X7_lessonsWith_23] at h
    exact ga_T_go (sp := ga_sp [(5, 0, 0, fun L s => match L with
      | [some (.ref 1), some (.ref 23), some (.int l2), some (.int l3), some (.int l4)] => f_X7_lessonsWith_23_h5 ga_fuel l2 l3 l4 s
      | _ => none)]) (ga_sp_T (List.forall_mem_cons.mpr ⟨fun L S s1 h => (by
      dsimp only at h
      split at h
      · exact t_X7_lessonsWith_23_h5 s ga_fuel _ _ _  S s1 _ h
      · cases h), fun _ h => nomatch h⟩)) (n := 600) h)
abbrev T_X3_openLessons {α : Type} (P : ga_S) (s0 : ga_M) (K0 : ga_O → Option α) (cfg : ga_C) (r : α) : Prop := ga_T RX3 cX3_openLessons (ga_lk cl_X3_openLessons) gaGP gaCost (fun _ => []) gaCls 83 0 0 false true false none (fun S σ => S = P ∧ σ = s0) K0 cfg r
set_option maxRecDepth 100000 in
theorem t_X3_openLessons (s : ga_M) (r : Int32) (h : f_X3_openLessons s = some r) : T_X3_openLessons gaSH s gp_kI (0, [some (.ref 20)], [], gaSH, s, 0, 0) r := (by
    rw [fe_X3_openLessons] at h
    exact ga_T_go (sp := ga_sp []) (ga_sp_T (fun _ h => nomatch h)) (n := 600) h)
abbrev T_X11_count {α : Type} (P : ga_S) (s0 : ga_M) (K0 : ga_O → Option α) (cfg : ga_C) (r : α) : Prop := ga_T RX11 cX11_count (ga_lk cl_X11_count) gaGP gaCost (fun _ => []) gaCls 83 1 6 false true false none (fun S σ => S = P ∧ σ = s0) K0 cfg r
set_option maxRecDepth 100000 in
theorem t_X11_count (a : Int32) (s : ga_M) (r : Int32 ⊕ Nat) (h : f_X11_count a s = some r) : T_X11_count gaSH s gp_kIX (0, [some (.ref 0), some (.int a)], [], gaSH, s, 0, 0) r := (by
    rw [fe_X11_count] at h
    exact ga_T_go (sp := ga_sp []) (ga_sp_T (fun _ h => nomatch h)) (n := 600) h)
abbrev T_X12_watchedMany {α : Type} (P : ga_S) (s0 : ga_M) (K0 : ga_O → Option α) (cfg : ga_C) (r : α) : Prop := ga_T RX12 cX12_watchedMany (ga_lk cl_X12_watchedMany) gaGP gaCost (fun _ => []) gaCls 83 0 0 false true false none (fun S σ => S = P ∧ σ = s0) K0 cfg r
set_option maxRecDepth 100000 in
theorem t_X12_watchedMany_h4 (s0 : ga_M) : ∀ (n : Nat) (l1 : Int32) (l2 : Int32) (S : ga_S) (s : ga_M) (r : Int32), f_X12_watchedMany_h4 n l1 l2 s = some r → T_X12_watchedMany gaSH s0 gp_kI (4, [some (.ref 72), some (.int l1), some (.int l2)], [], S, s, 0, 0) r := by
  intro n
  induction n with
  | zero => intro l1 l2 S s r h; cases h
  | succ n ih => intro l1 l2 S s r h; exact ga_T_S fun hS => (by
    obtain ⟨rfl, rfl⟩ := hS
    exact ga_T_go (sp := ga_sp [(4, 0, 0, fun L s => match L with
      | [some (.ref 72), some (.int l1), some (.int l2)] => f_X12_watchedMany_h4 n l1 l2 s
      | _ => none)]) (ga_sp_T (List.forall_mem_cons.mpr ⟨fun L S s1 h => (by
      dsimp only at h
      split at h
      · exact ih _ _  S s1 _ h
      · cases h), fun _ h => nomatch h⟩)) (n := 600) h)
set_option maxRecDepth 100000 in
theorem t_X12_watchedMany (s : ga_M) (r : Int32) (h : f_X12_watchedMany s = some r) : T_X12_watchedMany gaSH s gp_kI (0, [some (.ref 72), none, none], [], gaSH, s, 0, 0) r := (by
    rw [fe_X12_watchedMany] at h
    exact ga_T_go (sp := ga_sp [(4, 0, 0, fun L s => match L with
      | [some (.ref 72), some (.int l1), some (.int l2)] => f_X12_watchedMany_h4 ga_fuel l1 l2 s
      | _ => none)]) (ga_sp_T (List.forall_mem_cons.mpr ⟨fun L S s1 h => (by
      dsimp only at h
      split at h
      · exact t_X12_watchedMany_h4 s ga_fuel _ _  S s1 _ h
      · cases h), fun _ h => nomatch h⟩)) (n := 600) h)
abbrev T_X12_openMany {α : Type} (P : ga_S) (s0 : ga_M) (K0 : ga_O → Option α) (cfg : ga_C) (r : α) : Prop := ga_T RX12 cX12_openMany (ga_lk cl_X12_openMany) gaGP gaCost (fun _ => []) gaCls 83 0 0 false true false none (fun S σ => S = P ∧ σ = s0) K0 cfg r
set_option maxRecDepth 100000 in
theorem t_X12_openMany_h4 (s0 : ga_M) : ∀ (n : Nat) (l1 : Int32) (l2 : Int32) (S : ga_S) (s : ga_M) (r : Int32), f_X12_openMany_h4 n l1 l2 s = some r → T_X12_openMany gaSH s0 gp_kI (4, [some (.ref 72), some (.int l1), some (.int l2)], [], S, s, 0, 0) r := by
  intro n
  induction n with
  | zero => intro l1 l2 S s r h; cases h
  | succ n ih => intro l1 l2 S s r h; exact ga_T_S fun hS => (by
    obtain ⟨rfl, rfl⟩ := hS
    exact ga_T_go (sp := ga_sp [(4, 0, 0, fun L s => match L with
      | [some (.ref 72), some (.int l1), some (.int l2)] => f_X12_openMany_h4 n l1 l2 s
      | _ => none)]) (ga_sp_T (List.forall_mem_cons.mpr ⟨fun L S s1 h => (by
      dsimp only at h
      split at h
      · exact ih _ _  S s1 _ h
      · cases h), fun _ h => nomatch h⟩)) (n := 600) h)
set_option maxRecDepth 100000 in
theorem t_X12_openMany (s : ga_M) (r : Int32) (h : f_X12_openMany s = some r) : T_X12_openMany gaSH s gp_kI (0, [some (.ref 72), none, none], [], gaSH, s, 0, 0) r := (by
    rw [fe_X12_openMany] at h
    exact ga_T_go (sp := ga_sp [(4, 0, 0, fun L s => match L with
      | [some (.ref 72), some (.int l1), some (.int l2)] => f_X12_openMany_h4 ga_fuel l1 l2 s
      | _ => none)]) (ga_sp_T (List.forall_mem_cons.mpr ⟨fun L S s1 h => (by
      dsimp only at h
      split at h
      · exact t_X12_openMany_h4 s ga_fuel _ _  S s1 _ h
      · cases h), fun _ h => nomatch h⟩)) (n := 600) h)
abbrev T_X12_count {α : Type} (P : ga_S) (K0 : ga_O → Option α) (cfg : ga_C) (r : α) : Prop := ga_T RX12 cX12_count (ga_lk cl_X12_count) gaG gaCost (fun _ => []) gaCls 83 0 0 false true true none (fun S _ => S = P) K0 cfg r
set_option maxRecDepth 100000 in
theorem t_X12_count (a : Int32) (s : ga_M) (r : Int32 × ga_M) (h : f_X12_count a s = some r) : T_X12_count gaSH ga_kI (0, [some (.ref 72), some (.int a)], [], gaSH, s, 0, 0) r := (by
    rw [fe_X12_count] at h
    exact ga_T_go (sp := ga_sp []) (ga_sp_T (fun _ h => nomatch h)) (n := 600) h)
