abbrev T_X8_readLesson {α : Type} (P : ga_S) (K0 : ga_O → Option α) (cfg : ga_C) (r : α) : Prop := ga_T RX8 cX8_readLesson (ga_lk cl_X8_readLesson) gaG gaCost (fun _ => []) gaCls 84 0 0 false true true none (fun S _ => S = P) K0 cfg r
set_option maxRecDepth 100000 in
theorem t_X8_readLesson_j155 (l1 : Int32) (l2 : Int32) (l3 : Int32) (l4 : Int32) (S : ga_S) (s : ga_M) (r : Int32 × ga_M) (h : f_X8_readLesson_j155 l1 l2 l3 l4 s = some r) : T_X8_readLesson gaSH ga_kI (155, [some (.ref 48), some (.int l1), some (.int l2), some (.int l3), some (.int l4)], [], S, s, 0, 0) r := ga_T_S fun hS => (by
    cases hS
    rw [fe_X8_readLesson_j155] at h
    exact ga_T_go (sp := ga_sp []) (ga_sp_T (fun _ h => nomatch h)) (n := 600) h)
set_option maxRecDepth 100000 in
theorem t_X8_readLesson_j101 (l1 : Int32) (l2 : Int32) (l3 : Int32) (w0 : Option Value) (S : ga_S) (s : ga_M) (r : Int32 × ga_M) (h : f_X8_readLesson_j101 l1 l2 l3 s = some r) : T_X8_readLesson gaSH ga_kI (101, [some (.ref 48), some (.int l1), some (.int l2), some (.int l3), w0], [], S, s, 0, 0) r := ga_T_S fun hS => (by
    cases hS
    rw [fe_X8_readLesson_j101] at h
    exact ga_T_go (sp := ga_sp [(155, 0, 0, fun L s => match L with
      | [some (.ref 48), some (.int l1), some (.int l2), some (.int l3), some (.int l4)] => f_X8_readLesson_j155 l1 l2 l3 l4 s
      | _ => none)]) (ga_sp_T (List.forall_mem_cons.mpr ⟨fun L S s1 h => (by
      dsimp only at h
      split at h
      · exact t_X8_readLesson_j155 _ _ _ _  S s1 _ h
      · cases h), fun _ h => nomatch h⟩)) (n := 600) h)
set_option maxRecDepth 100000 in
theorem t_X8_readLesson_j48 (l1 : Int32) (w0 : Option Value) (w1 : Option Value) (w2 : Option Value) (S : ga_S) (s : ga_M) (r : Int32 × ga_M) (h : f_X8_readLesson_j48 l1 s = some r) : T_X8_readLesson gaSH ga_kI (48, [some (.ref 48), some (.int l1), w0, w1, w2], [], S, s, 0, 0) r := ga_T_S fun hS => (by
    cases hS
    rw [fe_X8_readLesson_j48] at h
    exact ga_T_go (sp := ga_sp [(101, 0, 0, fun L s => match L with
      | [some (.ref 48), some (.int l1), some (.int l2), some (.int l3), _] => f_X8_readLesson_j101 l1 l2 l3 s
      | _ => none)]) (ga_sp_T (List.forall_mem_cons.mpr ⟨fun L S s1 h => (by
      dsimp only at h
      split at h
      · exact t_X8_readLesson_j101 _ _ _ _ S s1 _ h
      · cases h), fun _ h => nomatch h⟩)) (n := 600) h)
set_option maxRecDepth 100000 in
theorem t_X8_readLesson (s : ga_M) (r : Int32 × ga_M) (h : f_X8_readLesson s = some r) : T_X8_readLesson gaSH ga_kI (0, [some (.ref 48), none, none, none, none], [], gaSH, s, 0, 0) r := (by
    rw [fe_X8_readLesson] at h
    exact ga_T_go (sp := ga_sp [(48, 0, 0, fun L s => match L with
      | [some (.ref 48), some (.int l1), _, _, _] => f_X8_readLesson_j48 l1 s
      | _ => none)]) (ga_sp_T (List.forall_mem_cons.mpr ⟨fun L S s1 h => (by
      dsimp only at h
      split at h
      · exact t_X8_readLesson_j48 _ _ _ _ S s1 _ h
      · cases h), fun _ h => nomatch h⟩)) (n := 600) h)
abbrev T_X8_readLessons {α : Type} (P : ga_S) (K0 : ga_O → Option α) (cfg : ga_C) (r : α) : Prop := ga_T RX8 cX8_readLessons (ga_lk cl_X8_readLessons) gaG gaCost (fun _ => []) gaCls 84 0 0 false true true none (fun S _ => S = P) K0 cfg r
set_option maxRecDepth 100000 in
theorem t_X8_readLessons_h2 : ∀ (n : Nat) (l1 : Int32) (S : ga_S) (s : ga_M) (r : Int32 × ga_M), f_X8_readLessons_h2 n l1 s = some r → T_X8_readLessons gaSH ga_kI (2, [some (.ref 48), some (.int l1)], [], S, s, 0, 0) r := by
  intro n
  induction n with
  | zero => intro l1 S s r h; cases h
  | succ n ih => intro l1 S s r h; exact ga_T_S fun hS => (by
    cases hS
    exact ga_T_go (sp := ga_sp [(2, 0, 0, fun L s => match L with
      | [some (.ref 48), some (.int l1)] => f_X8_readLessons_h2 n l1 s
      | _ => none)]) (ga_sp_T (List.forall_mem_cons.mpr ⟨fun L S s1 h => (by
      dsimp only at h
      split at h
      · exact ih _  S s1 _ h
      · cases h), fun _ h => nomatch h⟩)) (n := 600) h)
set_option maxRecDepth 100000 in
theorem t_X8_readLessons (s : ga_M) (r : Int32 × ga_M) (h : f_X8_readLessons s = some r) : T_X8_readLessons gaSH ga_kI (0, [some (.ref 48), none], [], gaSH, s, 0, 0) r := (by
    rw [fe_X8_readLessons] at h
    exact ga_T_go (sp := ga_sp [(2, 0, 0, fun L s => match L with
      | [some (.ref 48), some (.int l1)] => f_X8_readLessons_h2 ga_fuel l1 s
      | _ => none)]) (ga_sp_T (List.forall_mem_cons.mpr ⟨fun L S s1 h => (by
      dsimp only at h
      split at h
      · exact t_X8_readLessons_h2 ga_fuel _  S s1 _ h
      · cases h), fun _ h => nomatch h⟩)) (n := 600) h)
abbrev T_X8_read {α : Type} (P : ga_S) (K0 : ga_O → Option α) (cfg : ga_C) (r : α) : Prop := ga_T RX8 cX8_read (ga_lk cl_X8_read) gaG gaCost (fun _ => []) gaCls 84 0 0 false true true none (fun S _ => S = P) K0 cfg r
set_option maxRecDepth 100000 in
theorem t_X8_read (s : ga_M) (r : Int32 × ga_M) (h : f_X8_read s = some r) : T_X8_read gaSH ga_kI (0, [some (.ref 48)], [], gaSH, s, 0, 0) r := (by
    rw [fe_X8_read] at h
    exact ga_T_go (sp := ga_sp []) (ga_sp_T (fun _ h => nomatch h)) (n := 600) h)
abbrev T_X7_become {α : Type} (P : ga_S) (K0 : ga_O → Option α) (cfg : ga_C) (r : α) : Prop := ga_T RX7 cX7_become (ga_lk cl_X7_become) gaG gaCost (fun _ => []) gaCls 84 0 0 false true true none (fun S _ => S = P) K0 cfg r
set_option maxRecDepth 100000 in
theorem t_X7_become_49 (s : ga_M) (r : ga_M) (h : f_X7_become_49 s = some r) : T_X7_become gaSH ga_kV (0, [some (.ref 1), some (.ref 49)], [], gaSH, s, 0, 0) r := (by
    rw [fe_X7_become_49] at h
    exact ga_T_go (sp := ga_sp []) (ga_sp_T (fun _ h => nomatch h)) (n := 600) h)
abbrev T_X7_dayOf {α : Type} (P : ga_S) (s0 : ga_M) (K0 : ga_O → Option α) (cfg : ga_C) (r : α) : Prop := ga_T RX7 cX7_dayOf (ga_lk cl_X7_dayOf) gaGP gaCost (fun _ => []) gaCls 84 0 0 false true false none (fun S σ => S = P ∧ σ = s0) K0 cfg r
set_option maxRecDepth 100000 in
theorem t_X7_dayOf (a : Int32) (s : ga_M) (r : Int32) (h : f_X7_dayOf a s = some r) : T_X7_dayOf gaSH s gp_kI (0, [some (.ref 1), some (.int a)], [], gaSH, s, 0, 0) r := (by
    rw [fe_X7_dayOf] at h
    exact ga_T_go (sp := ga_sp []) (ga_sp_T (fun _ h => nomatch h)) (n := 600) h)
abbrev T_X3_isAway {α : Type} (P : ga_S) (s0 : ga_M) (K0 : ga_O → Option α) (cfg : ga_C) (r : α) : Prop := ga_T RX3 cX3_isAway (ga_lk cl_X3_isAway) gaGP gaCost (fun _ => []) gaCls 84 0 0 false true false none (fun S σ => S = P ∧ σ = s0) K0 cfg r
set_option maxRecDepth 100000 in
theorem t_X3_isAway (a : Int32) (b : Int32) (s : ga_M) (r : Int32) (h : f_X3_isAway a b s = some r) : T_X3_isAway gaSH s gp_kI (0, [some (.ref 20), some (.int a), some (.int b)], [], gaSH, s, 0, 0) r := (by
    rw [fe_X3_isAway] at h
    exact ga_T_go (sp := ga_sp []) (ga_sp_T (fun _ h => nomatch h)) (n := 600) h)
abbrev T_X3_isAwayAt {α : Type} (P : ga_S) (s0 : ga_M) (K0 : ga_O → Option α) (cfg : ga_C) (r : α) : Prop := ga_T RX3 cX3_isAwayAt (ga_lk cl_X3_isAwayAt) gaGP gaCost (fun _ => []) gaCls 84 0 0 false true false none (fun S σ => S = P ∧ σ = s0) K0 cfg r
set_option maxRecDepth 100000 in
theorem t_X3_isAwayAt (a : Int32) (b : Int32) (s : ga_M) (r : Int32) (h : f_X3_isAwayAt a b s = some r) : T_X3_isAwayAt gaSH s gp_kI (0, [some (.ref 20), some (.int a), some (.int b)], [], gaSH, s, 0, 0) r := (by
    rw [fe_X3_isAwayAt] at h
    exact ga_T_go (sp := ga_sp []) (ga_sp_T (fun _ h => nomatch h)) (n := 600) h)
abbrev T_X3_returnToFirst {α : Type} (P : ga_S) (K0 : ga_O → Option α) (cfg : ga_C) (r : α) : Prop := ga_T RX3 cX3_returnToFirst (ga_lk cl_X3_returnToFirst) gaG gaCost (fun _ => []) gaCls 84 0 0 false true true none (fun S _ => S = P) K0 cfg r
set_option maxRecDepth 100000 in
theorem t_X3_returnToFirst_h2 : ∀ (n : Nat) (l1 : Int32) (w0 : Option Value) (w1 : Option Value) (S : ga_S) (s : ga_M) (r : ga_M), f_X3_returnToFirst_h2 n l1 s = some r → T_X3_returnToFirst gaSH ga_kV (2, [some (.ref 20), some (.int l1), w0, w1], [], S, s, 0, 0) r := by
  intro n
  induction n with
  | zero => intro l1 w0 w1 S s r h; cases h
  | succ n ih => intro l1 w0 w1 S s r h; exact ga_T_S fun hS => (by
    cases hS
    exact ga_T_go (sp := ga_sp [(2, 0, 0, fun L s => match L with
      | [some (.ref 20), some (.int l1), _, _] => f_X3_returnToFirst_h2 n l1 s
      | _ => none)]) (ga_sp_T (List.forall_mem_cons.mpr ⟨fun L S s1 h => (by
      dsimp only at h
      split at h
      · exact ih _ _ _ S s1 _ h
      · cases h), fun _ h => nomatch h⟩)) (n := 600) h)
set_option maxRecDepth 100000 in
theorem t_X3_returnToFirst (s : ga_M) (r : ga_M) (h : f_X3_returnToFirst s = some r) : T_X3_returnToFirst gaSH ga_kV (0, [some (.ref 20), none, none, none], [], gaSH, s, 0, 0) r := (by
    rw [fe_X3_returnToFirst] at h
    exact ga_T_go (sp := ga_sp [(2, 0, 0, fun L s => match L with
      | [some (.ref 20), some (.int l1), _, _] => f_X3_returnToFirst_h2 ga_fuel l1 s
      | _ => none)]) (ga_sp_T (List.forall_mem_cons.mpr ⟨fun L S s1 h => (by
      dsimp only at h
      split at h
      · exact t_X3_returnToFirst_h2 ga_fuel _ _ _ S s1 _ h
      · cases h), fun _ h => nomatch h⟩)) (n := 600) h)
abbrev T_X3_begin {α : Type} (P : ga_S) (K0 : ga_O → Option α) (cfg : ga_C) (r : α) : Prop := ga_T RX3 cX3_begin (ga_lk cl_X3_begin) gaG gaCost (fun _ => []) gaCls 84 0 0 false true true none (fun S _ => S = P) K0 cfg r
set_option maxRecDepth 100000 in
theorem t_X3_begin_h2 : ∀ (n : Nat) (l1 : Int32) (S : ga_S) (s : ga_M) (r : ga_M), f_X3_begin_h2 n l1 s = some r → T_X3_begin gaSH ga_kV (2, [some (.ref 20), some (.int l1)], [], S, s, 0, 0) r := by
  intro n
  induction n with
  | zero => intro l1 S s r h; cases h
  | succ n ih => intro l1 S s r h; exact ga_T_S fun hS => (by
    cases hS
    exact ga_T_go (sp := ga_sp [(2, 0, 0, fun L s => match L with
      | [some (.ref 20), some (.int l1)] => f_X3_begin_h2 n l1 s
      | _ => none)]) (ga_sp_T (List.forall_mem_cons.mpr ⟨fun L S s1 h => (by
      dsimp only at h
      split at h
      · exact ih _  S s1 _ h
      · cases h), fun _ h => nomatch h⟩)) (n := 600) h)
set_option maxRecDepth 100000 in
theorem t_X3_begin (s : ga_M) (r : ga_M) (h : f_X3_begin s = some r) : T_X3_begin gaSH ga_kV (0, [some (.ref 20), none], [], gaSH, s, 0, 0) r := (by
    rw [fe_X3_begin] at h
    exact ga_T_go (sp := ga_sp [(2, 0, 0, fun L s => match L with
      | [some (.ref 20), some (.int l1)] => f_X3_begin_h2 ga_fuel l1 s
      | _ => none)]) (ga_sp_T (List.forall_mem_cons.mpr ⟨fun L S s1 h => (by
      dsimp only at h
      split at h
      · exact t_X3_begin_h2 ga_fuel _  S s1 _ h
      · cases h), fun _ h => nomatch h⟩)) (n := 600) h)
abbrev T_X1_forget {α : Type} (P : ga_S) (K0 : ga_O → Option α) (cfg : ga_C) (r : α) : Prop := ga_T RX1 cX1_forget (ga_lk cl_X1_forget) gaG gaCost (fun _ => []) gaCls 84 0 0 false true true none (fun S _ => S = P) K0 cfg r
set_option maxRecDepth 100000 in
theorem t_X1_forget (s : ga_M) (r : ga_M) (h : f_X1_forget s = some r) : T_X1_forget gaSH ga_kV (0, [some (.ref 42)], [], gaSH, s, 0, 0) r := (by
    rw [fe_X1_forget] at h
    exact ga_T_go (sp := ga_sp []) (ga_sp_T (fun _ h => nomatch h)) (n := 600) h)
abbrev T_X11_parseSchool {α : Type} (P : ga_S) (K0 : ga_O → Option α) (cfg : ga_C) (r : α) : Prop := ga_T RX11 cX11_parseSchool (ga_lk cl_X11_parseSchool) gaG gaCost (fun _ => []) gaCls 84 0 0 false true true none (fun S _ => S = P) K0 cfg r
set_option maxRecDepth 100000 in
theorem t_X11_parseSchool (s : ga_M) (r : Int32 × ga_M) (h : f_X11_parseSchool s = some r) : T_X11_parseSchool gaSH ga_kI (0, [some (.ref 0), none], [], gaSH, s, 0, 0) r := (by
    rw [fe_X11_parseSchool] at h
    exact ga_T_go (sp := ga_sp []) (ga_sp_T (fun _ h => nomatch h)) (n := 600) h)
set_option maxRecDepth 100000 in
theorem t_X7_hasTeacher (a : Int32) (s : ga_M) (r : Int32) (h : f_X7_hasTeacher a s = some r) : T_X7_hasTeacher gaSH s gp_kI (0, [some (.ref 1), some (.int a)], [], gaSH, s, 0, 0) r := (by
    rw [fe_X7_hasTeacher] at h
    exact ga_T_go (sp := ga_sp []) (ga_sp_T (fun _ h => nomatch h)) (n := 600) h)
abbrev T_X11_requireTeacher {α : Type} (P : ga_S) (s0 : ga_M) (K0 : ga_O → Option α) (cfg : ga_C) (r : α) : Prop := ga_T RX11 cX11_requireTeacher (ga_lk cl_X11_requireTeacher) gaGP gaCost (fun _ => []) gaCls 84 1 6 false true false none (fun S σ => S = P ∧ σ = s0) K0 cfg r
set_option maxRecDepth 100000 in
theorem t_X11_requireTeacher (a : Int32) (s : ga_M) (r : Option Nat) (h : f_X11_requireTeacher a s = some r) : T_X11_requireTeacher gaSH s gp_kVX (0, [some (.ref 0), some (.int a)], [], gaSH, s, 0, 0) r := (by
    rw [fe_X11_requireTeacher] at h
    exact ga_T_go (sp := ga_sp []) (ga_sp_T (fun _ h => nomatch h)) (n := 600) h)
abbrev T_X7_hasDay {α : Type} (P : ga_S) (s0 : ga_M) (K0 : ga_O → Option α) (cfg : ga_C) (r : α) : Prop := ga_T RX7 cX7_hasDay (ga_lk cl_X7_hasDay) gaGP gaCost (fun _ => []) gaCls 84 0 0 false true false none (fun S σ => S = P ∧ σ = s0) K0 cfg r
set_option maxRecDepth 100000 in
theorem t_X7_hasDay (a : Int32) (s : ga_M) (r : Int32) (h : f_X7_hasDay a s = some r) : T_X7_hasDay gaSH s gp_kI (0, [some (.ref 1), some (.int a)], [], gaSH, s, 0, 0) r := (by
    rw [fe_X7_hasDay] at h
    exact ga_T_go (sp := ga_sp []) (ga_sp_T (fun _ h => nomatch h)) (n := 600) h)
abbrev T_X11_requireDay {α : Type} (P : ga_S) (s0 : ga_M) (K0 : ga_O → Option α) (cfg : ga_C) (r : α) : Prop := ga_T RX11 cX11_requireDay (ga_lk cl_X11_requireDay) gaGP gaCost (fun _ => []) gaCls 84 1 6 false true false none (fun S σ => S = P ∧ σ = s0) K0 cfg r
set_option maxRecDepth 100000 in
theorem t_X11_requireDay (a : Int32) (s : ga_M) (r : Option Nat) (h : f_X11_requireDay a s = some r) : T_X11_requireDay gaSH s gp_kVX (0, [some (.ref 0), some (.int a)], [], gaSH, s, 0, 0) r := (by
    rw [fe_X11_requireDay] at h
    exact ga_T_go (sp := ga_sp []) (ga_sp_T (fun _ h => nomatch h)) (n := 600) h)
abbrev T_X1_baseOf {α : Type} (P : ga_S) (s0 : ga_M) (K0 : ga_O → Option α) (cfg : ga_C) (r : α) : Prop := ga_T RX1 cX1_baseOf (ga_lk cl_X1_baseOf) gaGP gaCost (fun _ => []) gaCls 84 0 0 false true false none (fun S σ => S = P ∧ σ = s0) K0 cfg r
set_option maxRecDepth 100000 in
theorem t_X1_baseOf (a : Int32) (s : ga_M) (r : Int32) (h : f_X1_baseOf a s = some r) : T_X1_baseOf gaSH s gp_kI (0, [some (.ref 42), some (.int a)], [], gaSH, s, 0, 0) r := (by
    rw [fe_X1_baseOf] at h
    exact ga_T_go (sp := ga_sp []) (ga_sp_T (fun _ h => nomatch h)) (n := 600) h)
abbrev T_X1_mark {α : Type} (P : ga_S) (K0 : ga_O → Option α) (cfg : ga_C) (r : α) : Prop := ga_T RX1 cX1_mark (ga_lk cl_X1_mark) gaG gaCost (fun _ => []) gaCls 84 0 0 false true true none (fun S _ => S = P) K0 cfg r
set_option maxRecDepth 100000 in
theorem t_X1_mark_h123 : ∀ (n : Nat) (l1 : Int32) (l2 : Int32) (S : ga_S) (s : ga_M) (r : ga_M), f_X1_mark_h123 n l1 l2 s = some r → T_X1_mark gaSH ga_kV (123, [some (.ref 42), some (.int l1), some (.int l2)], [], S, s, 0, 0) r := by
  intro n
  induction n with
  | zero => intro l1 l2 S s r h; cases h
  | succ n ih => intro l1 l2 S s r h; exact ga_T_S fun hS => (by
    cases hS
    exact ga_T_go (sp := ga_sp [(123, 0, 0, fun L s => match L with
      | [some (.ref 42), some (.int l1), some (.int l2)] => f_X1_mark_h123 n l1 l2 s
      | _ => none)]) (ga_sp_T (List.forall_mem_cons.mpr ⟨fun L S s1 h => (by
      dsimp only at h
      split at h
      · exact ih _ _  S s1 _ h
      · cases h), fun _ h => nomatch h⟩)) (n := 600) h)
set_option maxRecDepth 100000 in
theorem t_X1_mark_h11 : ∀ (n : Nat) (l1 : Int32) (l2 : Int32) (S : ga_S) (s : ga_M) (r : ga_M), f_X1_mark_h11 n l1 l2 s = some r → T_X1_mark gaSH ga_kV (11, [some (.ref 42), some (.int l1), some (.int l2)], [], S, s, 0, 0) r := by
  intro n
  induction n with
  | zero => intro l1 l2 S s r h; cases h
  | succ n ih => intro l1 l2 S s r h; exact ga_T_S fun hS => (by
    cases hS
    exact ga_T_go (sp := ga_sp [(123, 0, 0, fun L s => match L with
      | [some (.ref 42), some (.int l1), some (.int l2)] => f_X1_mark_h123 ga_fuel l1 l2 s
      | _ => none), (11, 0, 0, fun L s => match L with
      | [some (.ref 42), some (.int l1), some (.int l2)] => f_X1_mark_h11 n l1 l2 s
      | _ => none)]) (ga_sp_T (List.forall_mem_cons.mpr ⟨fun L S s1 h => (by
      dsimp only at h
      split at h
      · exact t_X1_mark_h123 ga_fuel _ _  S s1 _ h
      · cases h), List.forall_mem_cons.mpr ⟨fun L S s1 h => (by
      dsimp only at h
      split at h
      · exact ih _ _  S s1 _ h
      · cases h), fun _ h => nomatch h⟩⟩)) (n := 600) h)
set_option maxRecDepth 100000 in
theorem t_X1_mark (s : ga_M) (r : ga_M) (h : f_X1_mark s = some r) : T_X1_mark gaSH ga_kV (0, [some (.ref 42), none, none], [], gaSH, s, 0, 0) r := (by
    rw [fe_X1_mark] at h
    exact ga_T_go (sp := ga_sp [(11, 0, 0, fun L s => match L with
      | [some (.ref 42), some (.int l1), some (.int l2)] => f_X1_mark_h11 ga_fuel l1 l2 s
      | _ => none)]) (ga_sp_T (List.forall_mem_cons.mpr ⟨fun L S s1 h => (by
      dsimp only at h
      split at h
      · exact t_X1_mark_h11 ga_fuel _ _  S s1 _ h
      · cases h), fun _ h => nomatch h⟩)) (n := 600) h)
abbrev T_X3_makeOpen {α : Type} (P : ga_S) (K0 : ga_O → Option α) (cfg : ga_C) (r : α) : Prop := ga_T RX3 cX3_makeOpen (ga_lk cl_X3_makeOpen) gaG gaCost (fun _ => []) gaCls 84 0 0 false true true none (fun S _ => S = P) K0 cfg r
set_option maxRecDepth 100000 in
theorem t_X3_makeOpen (a : Int32) (s : ga_M) (r : ga_M) (h : f_X3_makeOpen a s = some r) : T_X3_makeOpen gaSH ga_kV (0, [some (.ref 20), some (.int a)], [], gaSH, s, 0, 0) r := (by
    rw [fe_X3_makeOpen] at h
    exact ga_T_go (sp := ga_sp []) (ga_sp_T (fun _ h => nomatch h)) (n := 600) h)
abbrev T_X2_letBeAbsent {α : Type} (P : ga_S) (K0 : ga_O → Option α) (cfg : ga_C) (r : α) : Prop := ga_T RX2 cX2_letBeAbsent (ga_lk cl_X2_letBeAbsent) gaG gaCost (fun _ => []) gaCls 84 0 0 false true true none (fun S _ => S = P) K0 cfg r
set_option maxRecDepth 100000 in
theorem t_X2_letBeAbsent_h61 : ∀ (n : Nat) (l1 : Int32) (l2 : Int32) (l5 : Int32) (l6 : Int32) (w0 : Option Value) (w1 : Option Value) (S : ga_S) (s : ga_M) (r : Int32 × ga_M), f_X2_letBeAbsent_h61 n l1 l2 l5 l6 s = some r → T_X2_letBeAbsent gaSH ga_kI (61, [some (.ref 41), some (.int l1), some (.int l2), w0, w1, some (.int l5), some (.int l6)], [], S, s, 0, 0) r := by
  intro n
  induction n with
  | zero => intro l1 l2 l5 l6 w0 w1 S s r h; cases h
  | succ n ih => intro l1 l2 l5 l6 w0 w1 S s r h; exact ga_T_S fun hS => (by
    cases hS
    exact ga_T_go (sp := ga_sp [(61, 0, 0, fun L s => match L with
      | [some (.ref 41), some (.int l1), some (.int l2), _, _, some (.int l5), some (.int l6)] => f_X2_letBeAbsent_h61 n l1 l2 l5 l6 s
      | _ => none)]) (ga_sp_T (List.forall_mem_cons.mpr ⟨fun L S s1 h => (by
      dsimp only at h
      split at h
      · exact ih _ _ _ _ _ _ S s1 _ h
      · cases h), fun _ h => nomatch h⟩)) (n := 600) h)
set_option maxRecDepth 100000 in
theorem t_X2_letBeAbsent (a : Int32) (b : Int32) (c : Int32) (s : ga_M) (r : Int32 × ga_M) (h : f_X2_letBeAbsent a b c s = some r) : T_X2_letBeAbsent gaSH ga_kI (0, [some (.ref 41), some (.int a), some (.int b), some (.int c), none, none, none], [], gaSH, s, 0, 0) r := (by
    rw [fe_X2_letBeAbsent] at h
    exact ga_T_go (sp := ga_sp [(61, 0, 0, fun L s => match L with
      | [some (.ref 41), some (.int l1), some (.int l2), _, _, some (.int l5), some (.int l6)] => f_X2_letBeAbsent_h61 ga_fuel l1 l2 l5 l6 s
      | _ => none)]) (ga_sp_T (List.forall_mem_cons.mpr ⟨fun L S s1 h => (by
      dsimp only at h
      split at h
      · exact t_X2_letBeAbsent_h61 ga_fuel _ _ _ _ _ _ S s1 _ h
      · cases h), fun _ h => nomatch h⟩)) (n := 600) h)
abbrev T_X1_keepMarked {α : Type} (P : ga_S) (K0 : ga_O → Option α) (cfg : ga_C) (r : α) : Prop := ga_T RX1 cX1_keepMarked (ga_lk cl_X1_keepMarked) gaG gaCost (fun _ => []) gaCls 84 0 0 false true true none (fun S _ => S = P) K0 cfg r
set_option maxRecDepth 100000 in
theorem t_X1_keepMarked (s : ga_M) (r : ga_M) (h : f_X1_keepMarked s = some r) : T_X1_keepMarked gaSH ga_kV (0, [some (.ref 42)], [], gaSH, s, 0, 0) r := (by
    rw [fe_X1_keepMarked] at h
    exact ga_T_go (sp := ga_sp []) (ga_sp_T (fun _ h => nomatch h)) (n := 600) h)
abbrev T_X11_setAbsent {α : Type} (P : ga_S) (K0 : ga_O → Option α) (cfg : ga_C) (r : α) : Prop := ga_T RX11 cX11_setAbsent (ga_lk cl_X11_setAbsent) gaG gaCost (fun _ => []) gaCls 84 2 12 false true true none (fun S _ => S = P) K0 cfg r
set_option maxRecDepth 100000 in
theorem t_X11_setAbsent (a : Int32) (b : Int32) (c : Int32) (s : ga_M) (r : (Int32 ⊕ Nat) × ga_M) (h : f_X11_setAbsent a b c s = some r) : T_X11_setAbsent gaSH ga_kIX (0, [some (.ref 0), some (.int a), some (.int b), some (.int c), none], [], gaSH, s, 0, 0) r := (by
    rw [fe_X11_setAbsent] at h
    exact ga_T_go (sp := ga_sp []) (ga_sp_T (fun _ h => nomatch h)) (n := 600) h)
abbrev T_X7_hasLesson {α : Type} (P : ga_S) (s0 : ga_M) (K0 : ga_O → Option α) (cfg : ga_C) (r : α) : Prop := ga_T RX7 cX7_hasLesson (ga_lk cl_X7_hasLesson) gaGP gaCost (fun _ => []) gaCls 84 0 0 false true false none (fun S σ => S = P ∧ σ = s0) K0 cfg r
set_option maxRecDepth 100000 in
theorem t_X7_hasLesson (a : Int32) (s : ga_M) (r : Int32) (h : f_X7_hasLesson a s = some r) : T_X7_hasLesson gaSH s gp_kI (0, [some (.ref 1), some (.int a)], [], gaSH, s, 0, 0) r := (by
    rw [fe_X7_hasLesson] at h
    exact ga_T_go (sp := ga_sp []) (ga_sp_T (fun _ h => nomatch h)) (n := 600) h)
abbrev T_X11_requireLesson {α : Type} (P : ga_S) (s0 : ga_M) (K0 : ga_O → Option α) (cfg : ga_C) (r : α) : Prop := ga_T RX11 cX11_requireLesson (ga_lk cl_X11_requireLesson) gaGP gaCost (fun _ => []) gaCls 84 1 6 false true false none (fun S σ => S = P ∧ σ = s0) K0 cfg r
set_option maxRecDepth 100000 in
theorem t_X11_requireLesson (a : Int32) (s : ga_M) (r : Option Nat) (h : f_X11_requireLesson a s = some r) : T_X11_requireLesson gaSH s gp_kVX (0, [some (.ref 0), some (.int a)], [], gaSH, s, 0, 0) r := (by
    rw [fe_X11_requireLesson] at h
    exact ga_T_go (sp := ga_sp []) (ga_sp_T (fun _ h => nomatch h)) (n := 600) h)
abbrev T_X3_isTaught {α : Type} (P : ga_S) (s0 : ga_M) (K0 : ga_O → Option α) (cfg : ga_C) (r : α) : Prop := ga_T RX3 cX3_isTaught (ga_lk cl_X3_isTaught) gaGP gaCost (fun _ => []) gaCls 84 0 0 false true false none (fun S σ => S = P ∧ σ = s0) K0 cfg r
set_option maxRecDepth 100000 in
theorem t_X3_isTaught (a : Int32) (s : ga_M) (r : Int32) (h : f_X3_isTaught a s = some r) : T_X3_isTaught gaSH s gp_kI (0, [some (.ref 20), some (.int a)], [], gaSH, s, 0, 0) r := (by
    rw [fe_X3_isTaught] at h
    exact ga_T_go (sp := ga_sp []) (ga_sp_T (fun _ h => nomatch h)) (n := 600) h)
set_option maxRecDepth 100000 in
theorem t_X7_isQualified (a : Int32) (b : Int32) (s : ga_M) (r : Int32) (h : f_X7_isQualified a b s = some r) : T_X7_isQualified gaSH s gp_kI (0, [some (.ref 1), some (.int a), some (.int b)], [], gaSH, s, 0, 0) r := (by
    rw [fe_X7_isQualified] at h
    exact ga_T_go (sp := ga_sp []) (ga_sp_T (fun _ h => nomatch h)) (n := 600) h)
abbrev T_X3_lessonAt {α : Type} (P : ga_S) (s0 : ga_M) (K0 : ga_O → Option α) (cfg : ga_C) (r : α) : Prop := ga_T RX3 cX3_lessonAt (ga_lk cl_X3_lessonAt) gaGP gaCost (fun _ => []) gaCls 84 0 0 false true false none (fun S σ => S = P ∧ σ = s0) K0 cfg r
set_option maxRecDepth 100000 in
theorem t_X3_lessonAt_23_h3 (s0 : ga_M) : ∀ (n : Nat) (l1 : Int32) (l3 : Int32) (l4 : Int32) (S : ga_S) (s : ga_M) (r : Int32), f_X3_lessonAt_23_h3 n l1 l3 l4 s = some r → T_X3_lessonAt gaSH s0 gp_kI (3, [some (.ref 20), some (.int l1), some (.ref 23), some (.int l3), some (.int l4)], [], S, s, 0, 0) r := by
  intro n
  induction n with
  | zero => intro l1 l3 l4 S s r h; cases h
  | succ n ih => intro l1 l3 l4 S s r h; exact ga_T_S fun hS => (by
    obtain ⟨rfl, rfl⟩ := hS
    exact ga_T_go (sp := ga_sp [(3, 0, 0, fun L s => match L with
      | [some (.ref 20), some (.int l1), some (.ref 23), some (.int l3), some (.int l4)] => f_X3_lessonAt_23_h3 n l1 l3 l4 s
      | _ => none)]) (ga_sp_T (List.forall_mem_cons.mpr ⟨fun L S s1 h => (by
      dsimp only at h
      split at h
      · exact ih _ _ _  S s1 _ h
      · cases h), fun _ h => nomatch h⟩)) (n := 600) h)
set_option maxRecDepth 100000 in
theorem t_X3_lessonAt_23 (a : Int32) (b : Int32) (s : ga_M) (r : Int32) (h : f_X3_lessonAt_23 a b s = some r) : T_X3_lessonAt gaSH s gp_kI (0, [some (.ref 20), some (.int a), some (.ref 23), some (.int b), none], [], gaSH, s, 0, 0) r := (by
    rw [fe_X3_lessonAt_23] at h
    exact ga_T_go (sp := ga_sp [(3, 0, 0, fun L s => match L with
      | [some (.ref 20), some (.int l1), some (.ref 23), some (.int l3), some (.int l4)] => f_X3_lessonAt_23_h3 ga_fuel l1 l3 l4 s
      | _ => none)]) (ga_sp_T (List.forall_mem_cons.mpr ⟨fun L S s1 h => (by
      dsimp only at h
      split at h
      · exact t_X3_lessonAt_23_h3 s ga_fuel _ _ _  S s1 _ h
      · cases h), fun _ h => nomatch h⟩)) (n := 600) h)
abbrev T_X4_isBusy {α : Type} (P : ga_S) (s0 : ga_M) (K0 : ga_O → Option α) (cfg : ga_C) (r : α) : Prop := ga_T RX4 cX4_isBusy (ga_lk cl_X4_isBusy) gaGP gaCost (fun _ => []) gaCls 84 0 0 false true false none (fun S σ => S = P ∧ σ = s0) K0 cfg r
set_option maxRecDepth 100000 in
theorem t_X4_isBusy (a : Int32) (b : Int32) (s : ga_M) (r : Int32) (h : f_X4_isBusy a b s = some r) : T_X4_isBusy gaSH s gp_kI (0, [some (.ref 31), some (.int a), some (.int b)], [], gaSH, s, 0, 0) r := (by
    rw [fe_X4_isBusy] at h
    exact ga_T_go (sp := ga_sp []) (ga_sp_T (fun _ h => nomatch h)) (n := 600) h)
abbrev T_X3_loadOf {α : Type} (P : ga_S) (s0 : ga_M) (K0 : ga_O → Option α) (cfg : ga_C) (r : α) : Prop := ga_T RX3 cX3_loadOf (ga_lk cl_X3_loadOf) gaGP gaCost (fun _ => []) gaCls 84 0 0 false true false none (fun S σ => S = P ∧ σ = s0) K0 cfg r
set_option maxRecDepth 100000 in
theorem t_X3_loadOf_h4 (s0 : ga_M) : ∀ (n : Nat) (l1 : Int32) (l2 : Int32) (l3 : Int32) (S : ga_S) (s : ga_M) (r : Int32), f_X3_loadOf_h4 n l1 l2 l3 s = some r → T_X3_loadOf gaSH s0 gp_kI (4, [some (.ref 20), some (.int l1), some (.int l2), some (.int l3)], [], S, s, 0, 0) r := by
  intro n
  induction n with
  | zero => intro l1 l2 l3 S s r h; cases h
  | succ n ih => intro l1 l2 l3 S s r h; exact ga_T_S fun hS => (by
    obtain ⟨rfl, rfl⟩ := hS
    exact ga_T_go (sp := ga_sp [(4, 0, 0, fun L s => match L with
      | [some (.ref 20), some (.int l1), some (.int l2), some (.int l3)] => f_X3_loadOf_h4 n l1 l2 l3 s
      | _ => none)]) (ga_sp_T (List.forall_mem_cons.mpr ⟨fun L S s1 h => (by
      dsimp only at h
      split at h
      · exact ih _ _ _  S s1 _ h
      · cases h), fun _ h => nomatch h⟩)) (n := 600) h)
set_option maxRecDepth 100000 in
theorem t_X3_loadOf (a : Int32) (s : ga_M) (r : Int32) (h : f_X3_loadOf a s = some r) : T_X3_loadOf gaSH s gp_kI (0, [some (.ref 20), some (.int a), none, none], [], gaSH, s, 0, 0) r := (by
    rw [fe_X3_loadOf] at h
    exact ga_T_go (sp := ga_sp [(4, 0, 0, fun L s => match L with
      | [some (.ref 20), some (.int l1), some (.int l2), some (.int l3)] => f_X3_loadOf_h4 ga_fuel l1 l2 l3 s
      | _ => none)]) (ga_sp_T (List.forall_mem_cons.mpr ⟨fun L S s1 h => (by
      dsimp only at h
      split at h
      · exact t_X3_loadOf_h4 s ga_fuel _ _ _  S s1 _ h
      · cases h), fun _ h => nomatch h⟩)) (n := 600) h)
abbrev T_X4_againstCover {α : Type} (P : ga_S) (s0 : ga_M) (K0 : ga_O → Option α) (cfg : ga_C) (r : α) : Prop := ga_T RX4 cX4_againstCover (ga_lk cl_X4_againstCover) gaGP gaCost (fun _ => []) gaCls 84 0 0 false true false none (fun S σ => S = P ∧ σ = s0) K0 cfg r
set_option maxRecDepth 100000 in
theorem t_X4_againstCover (a : Int32) (b : Int32) (s : ga_M) (r : Int32) (h : f_X4_againstCover a b s = some r) : T_X4_againstCover gaSH s gp_kI (0, [some (.ref 31), some (.int a), some (.int b), none], [], gaSH, s, 0, 0) r := (by
    rw [fe_X4_againstCover] at h
    exact ga_T_go (sp := ga_sp []) (ga_sp_T (fun _ h => nomatch h)) (n := 600) h)
abbrev T_X3_letTeach {α : Type} (P : ga_S) (K0 : ga_O → Option α) (cfg : ga_C) (r : α) : Prop := ga_T RX3 cX3_letTeach (ga_lk cl_X3_letTeach) gaG gaCost (fun _ => []) gaCls 84 0 0 false true true none (fun S _ => S = P) K0 cfg r
set_option maxRecDepth 100000 in
theorem t_X3_letTeach (a : Int32) (b : Int32) (s : ga_M) (r : ga_M) (h : f_X3_letTeach a b s = some r) : T_X3_letTeach gaSH ga_kV (0, [some (.ref 20), some (.int a), some (.int b)], [], gaSH, s, 0, 0) r := (by
    rw [fe_X3_letTeach] at h
    exact ga_T_go (sp := ga_sp []) (ga_sp_T (fun _ h => nomatch h)) (n := 600) h)
abbrev T_X2_letCover {α : Type} (P : ga_S) (K0 : ga_O → Option α) (cfg : ga_C) (r : α) : Prop := ga_T RX2 cX2_letCover (ga_lk cl_X2_letCover) gaG gaCost (fun _ => []) gaCls 84 0 0 false true true none (fun S _ => S = P) K0 cfg r
set_option maxRecDepth 100000 in
theorem t_X2_letCover (a : Int32) (b : Int32) (s : ga_M) (r : Int32 × ga_M) (h : f_X2_letCover a b s = some r) : T_X2_letCover gaSH ga_kI (0, [some (.ref 41), some (.int a), some (.int b)], [], gaSH, s, 0, 0) r := (by
    rw [fe_X2_letCover] at h
    exact ga_T_go (sp := ga_sp []) (ga_sp_T (fun _ h => nomatch h)) (n := 600) h)
abbrev T_X11_keepUnlessRefused {α : Type} (P : ga_S) (K0 : ga_O → Option α) (cfg : ga_C) (r : α) : Prop := ga_T RX11 cX11_keepUnlessRefused (ga_lk cl_X11_keepUnlessRefused) gaG gaCost (fun _ => []) gaCls 84 1 6 false true true none (fun S _ => S = P) K0 cfg r
set_option maxRecDepth 100000 in
theorem t_X11_keepUnlessRefused (a : Int32) (s : ga_M) (r : Option Nat × ga_M) (h : f_X11_keepUnlessRefused a s = some r) : T_X11_keepUnlessRefused gaSH ga_kVX (0, [some (.ref 0), some (.int a)], [], gaSH, s, 0, 0) r := (by
    rw [fe_X11_keepUnlessRefused] at h
    exact ga_T_go (sp := ga_sp []) (ga_sp_T (fun _ h => nomatch h)) (n := 600) h)
abbrev T_X11_cover {α : Type} (P : ga_S) (K0 : ga_O → Option α) (cfg : ga_C) (r : α) : Prop := ga_T RX11 cX11_cover (ga_lk cl_X11_cover) gaG gaCost (fun _ => []) gaCls 84 3 18 false true true none (fun S _ => S = P) K0 cfg r
set_option maxRecDepth 100000 in
theorem t_X11_cover (a : Int32) (b : Int32) (s : ga_M) (r : (Int32 ⊕ Nat) × ga_M) (h : f_X11_cover a b s = some r) : T_X11_cover gaSH ga_kIX (0, [some (.ref 0), some (.int a), some (.int b)], [], gaSH, s, 0, 0) r := (by
    rw [fe_X11_cover] at h
    exact ga_T_go (sp := ga_sp []) (ga_sp_T (fun _ h => nomatch h)) (n := 600) h)
abbrev T_X3_isOpen {α : Type} (P : ga_S) (s0 : ga_M) (K0 : ga_O → Option α) (cfg : ga_C) (r : α) : Prop := ga_T RX3 cX3_isOpen (ga_lk cl_X3_isOpen) gaGP gaCost (fun _ => []) gaCls 84 0 0 false true false none (fun S σ => S = P ∧ σ = s0) K0 cfg r
set_option maxRecDepth 100000 in
theorem t_X3_isOpen (a : Int32) (s : ga_M) (r : Int32) (h : f_X3_isOpen a s = some r) : T_X3_isOpen gaSH s gp_kI (0, [some (.ref 20), some (.int a)], [], gaSH, s, 0, 0) r := (by
    rw [fe_X3_isOpen] at h
    exact ga_T_go (sp := ga_sp []) (ga_sp_T (fun _ h => nomatch h)) (n := 600) h)
abbrev T_X3_isSupervised {α : Type} (P : ga_S) (s0 : ga_M) (K0 : ga_O → Option α) (cfg : ga_C) (r : α) : Prop := ga_T RX3 cX3_isSupervised (ga_lk cl_X3_isSupervised) gaGP gaCost (fun _ => []) gaCls 84 0 0 false true false none (fun S σ => S = P ∧ σ = s0) K0 cfg r
set_option maxRecDepth 100000 in
theorem t_X3_isSupervised (a : Int32) (s : ga_M) (r : Int32) (h : f_X3_isSupervised a s = some r) : T_X3_isSupervised gaSH s gp_kI (0, [some (.ref 20), some (.int a)], [], gaSH, s, 0, 0) r := (by
    rw [fe_X3_isSupervised] at h
    exact ga_T_go (sp := ga_sp []) (ga_sp_T (fun _ h => nomatch h)) (n := 600) h)
abbrev T_X3_dutiesOn {α : Type} (P : ga_S) (s0 : ga_M) (K0 : ga_O → Option α) (cfg : ga_C) (r : α) : Prop := ga_T RX3 cX3_dutiesOn (ga_lk cl_X3_dutiesOn) gaGP gaCost (fun _ => []) gaCls 84 0 0 false true false none (fun S σ => S = P ∧ σ = s0) K0 cfg r
set_option maxRecDepth 100000 in
theorem t_X3_dutiesOn_h5 (s0 : ga_M) : ∀ (n : Nat) (l1 : Int32) (l2 : Int32) (l3 : Int32) (l4 : Int32) (S : ga_S) (s : ga_M) (r : Int32), f_X3_dutiesOn_h5 n l1 l2 l3 l4 s = some r → T_X3_dutiesOn gaSH s0 gp_kI (5, [some (.ref 20), some (.int l1), some (.int l2), some (.int l3), some (.int l4)], [], S, s, 0, 0) r := by
  intro n
  induction n with
  | zero => intro l1 l2 l3 l4 S s r h; cases h
  | succ n ih => intro l1 l2 l3 l4 S s r h; exact ga_T_S fun hS => (by
    obtain ⟨rfl, rfl⟩ := hS
    exact ga_T_go (sp := ga_sp [(5, 0, 0, fun L s => match L with
      | [some (.ref 20), some (.int l1), some (.int l2), some (.int l3), some (.int l4)] => f_X3_dutiesOn_h5 n l1 l2 l3 l4 s
      | _ => none)]) (ga_sp_T (List.forall_mem_cons.mpr ⟨fun L S s1 h => (by
      dsimp only at h
      split at h
      · exact ih _ _ _ _  S s1 _ h
      · cases h), fun _ h => nomatch h⟩)) (n := 600) h)
set_option maxRecDepth 100000 in
theorem t_X3_dutiesOn (a : Int32) (b : Int32) (s : ga_M) (r : Int32) (h : f_X3_dutiesOn a b s = some r) : T_X3_dutiesOn gaSH s gp_kI (0, [some (.ref 20), some (.int a), some (.int b), none, none], [], gaSH, s, 0, 0) r := (by
    rw [fe_X3_dutiesOn] at h
    exact ga_T_go (sp := ga_sp [(5, 0, 0, fun L s => match L with
      | [some (.ref 20), some (.int l1), some (.int l2), some (.int l3), some (.int l4)] => f_X3_dutiesOn_h5 ga_fuel l1 l2 l3 l4 s
      | _ => none)]) (ga_sp_T (List.forall_mem_cons.mpr ⟨fun L S s1 h => (by
      dsimp only at h
      split at h
      · exact t_X3_dutiesOn_h5 s ga_fuel _ _ _ _  S s1 _ h
      · cases h), fun _ h => nomatch h⟩)) (n := 600) h)
abbrev T_X4_againstSupervision {α : Type} (P : ga_S) (s0 : ga_M) (K0 : ga_O → Option α) (cfg : ga_C) (r : α) : Prop := ga_T RX4 cX4_againstSupervision (ga_lk cl_X4_againstSupervision) gaGP gaCost (fun _ => []) gaCls 84 0 0 false true false none (fun S σ => S = P ∧ σ = s0) K0 cfg r
set_option maxRecDepth 100000 in
theorem t_X4_againstSupervision (a : Int32) (b : Int32) (s : ga_M) (r : Int32) (h : f_X4_againstSupervision a b s = some r) : T_X4_againstSupervision gaSH s gp_kI (0, [some (.ref 31), some (.int a), some (.int b), none], [], gaSH, s, 0, 0) r := (by
    rw [fe_X4_againstSupervision] at h
    exact ga_T_go (sp := ga_sp []) (ga_sp_T (fun _ h => nomatch h)) (n := 600) h)
abbrev T_X3_letWatch {α : Type} (P : ga_S) (K0 : ga_O → Option α) (cfg : ga_C) (r : α) : Prop := ga_T RX3 cX3_letWatch (ga_lk cl_X3_letWatch) gaG gaCost (fun _ => []) gaCls 84 0 0 false true true none (fun S _ => S = P) K0 cfg r
set_option maxRecDepth 100000 in
theorem t_X3_letWatch (a : Int32) (b : Int32) (s : ga_M) (r : ga_M) (h : f_X3_letWatch a b s = some r) : T_X3_letWatch gaSH ga_kV (0, [some (.ref 20), some (.int a), some (.int b)], [], gaSH, s, 0, 0) r := (by
    rw [fe_X3_letWatch] at h
    exact ga_T_go (sp := ga_sp []) (ga_sp_T (fun _ h => nomatch h)) (n := 600) h)
abbrev T_X2_letSupervise {α : Type} (P : ga_S) (K0 : ga_O → Option α) (cfg : ga_C) (r : α) : Prop := ga_T RX2 cX2_letSupervise (ga_lk cl_X2_letSupervise) gaG gaCost (fun _ => []) gaCls 84 0 0 false true true none (fun S _ => S = P) K0 cfg r
set_option maxRecDepth 100000 in
theorem t_X2_letSupervise (a : Int32) (b : Int32) (s : ga_M) (r : Int32 × ga_M) (h : f_X2_letSupervise a b s = some r) : T_X2_letSupervise gaSH ga_kI (0, [some (.ref 41), some (.int a), some (.int b)], [], gaSH, s, 0, 0) r := (by
    rw [fe_X2_letSupervise] at h
    exact ga_T_go (sp := ga_sp []) (ga_sp_T (fun _ h => nomatch h)) (n := 600) h)
abbrev T_X3_dutiesOf {α : Type} (P : ga_S) (s0 : ga_M) (K0 : ga_O → Option α) (cfg : ga_C) (r : α) : Prop := ga_T RX3 cX3_dutiesOf (ga_lk cl_X3_dutiesOf) gaGP gaCost (fun _ => []) gaCls 84 0 0 false true false none (fun S σ => S = P ∧ σ = s0) K0 cfg r
set_option maxRecDepth 100000 in
theorem t_X3_dutiesOf_h4 (s0 : ga_M) : ∀ (n : Nat) (l1 : Int32) (l2 : Int32) (l3 : Int32) (S : ga_S) (s : ga_M) (r : Int32), f_X3_dutiesOf_h4 n l1 l2 l3 s = some r → T_X3_dutiesOf gaSH s0 gp_kI (4, [some (.ref 20), some (.int l1), some (.int l2), some (.int l3)], [], S, s, 0, 0) r := by
  intro n
  induction n with
  | zero => intro l1 l2 l3 S s r h; cases h
  | succ n ih => intro l1 l2 l3 S s r h; exact ga_T_S fun hS => (by
    obtain ⟨rfl, rfl⟩ := hS
    exact ga_T_go (sp := ga_sp [(4, 0, 0, fun L s => match L with
      | [some (.ref 20), some (.int l1), some (.int l2), some (.int l3)] => f_X3_dutiesOf_h4 n l1 l2 l3 s
      | _ => none)]) (ga_sp_T (List.forall_mem_cons.mpr ⟨fun L S s1 h => (by
      dsimp only at h
      split at h
      · exact ih _ _ _  S s1 _ h
      · cases h), fun _ h => nomatch h⟩)) (n := 600) h)
set_option maxRecDepth 100000 in
theorem t_X3_dutiesOf (a : Int32) (s : ga_M) (r : Int32) (h : f_X3_dutiesOf a s = some r) : T_X3_dutiesOf gaSH s gp_kI (0, [some (.ref 20), some (.int a), none, none], [], gaSH, s, 0, 0) r := (by
    rw [fe_X3_dutiesOf] at h
    exact ga_T_go (sp := ga_sp [(4, 0, 0, fun L s => match L with
      | [some (.ref 20), some (.int l1), some (.int l2), some (.int l3)] => f_X3_dutiesOf_h4 ga_fuel l1 l2 l3 s
      | _ => none)]) (ga_sp_T (List.forall_mem_cons.mpr ⟨fun L S s1 h => (by
      dsimp only at h
      split at h
      · exact t_X3_dutiesOf_h4 s ga_fuel _ _ _  S s1 _ h
      · cases h), fun _ h => nomatch h⟩)) (n := 600) h)
abbrev T_X11_supervise {α : Type} (P : ga_S) (K0 : ga_O → Option α) (cfg : ga_C) (r : α) : Prop := ga_T RX11 cX11_supervise (ga_lk cl_X11_supervise) gaG gaCost (fun _ => []) gaCls 84 3 18 false true true none (fun S _ => S = P) K0 cfg r
set_option maxRecDepth 100000 in
theorem t_X11_supervise (a : Int32) (b : Int32) (s : ga_M) (r : (Int32 ⊕ Nat) × ga_M) (h : f_X11_supervise a b s = some r) : T_X11_supervise gaSH ga_kIX (0, [some (.ref 0), some (.int a), some (.int b)], [], gaSH, s, 0, 0) r := (by
    rw [fe_X11_supervise] at h
    exact ga_T_go (sp := ga_sp []) (ga_sp_T (fun _ h => nomatch h)) (n := 600) h)
abbrev T_X0_presentAt {α : Type} (P : ga_S) (s0 : ga_M) (K0 : ga_O → Option α) (cfg : ga_C) (r : α) : Prop := ga_T RX0 cX0_presentAt (ga_lk cl_X0_presentAt) gaGP gaCost (fun _ => []) gaCls 84 0 0 false true false none (fun S σ => S = P ∧ σ = s0) K0 cfg r
set_option maxRecDepth 100000 in
theorem t_X0_presentAt_h14 (s0 : ga_M) : ∀ (n : Nat) (l2 : Int32) (l3 : Int32) (l4 : Int32) (w0 : Option Value) (S : ga_S) (s : ga_M) (r : Int32), f_X0_presentAt_h14 n l2 l3 l4 s = some r → T_X0_presentAt gaSH s0 gp_kI (14, [some (.ref 32), w0, some (.int l2), some (.int l3), some (.int l4)], [], S, s, 0, 0) r := by
  intro n
  induction n with
  | zero => intro l2 l3 l4 w0 S s r h; cases h
  | succ n ih => intro l2 l3 l4 w0 S s r h; exact ga_T_S fun hS => (by
    obtain ⟨rfl, rfl⟩ := hS
    exact ga_T_go (sp := ga_sp [(14, 0, 0, fun L s => match L with
      | [some (.ref 32), _, some (.int l2), some (.int l3), some (.int l4)] => f_X0_presentAt_h14 n l2 l3 l4 s
      | _ => none)]) (ga_sp_T (List.forall_mem_cons.mpr ⟨fun L S s1 h => (by
      dsimp only at h
      split at h
      · exact ih _ _ _ _ S s1 _ h
      · cases h), fun _ h => nomatch h⟩)) (n := 600) h)
set_option maxRecDepth 100000 in
theorem t_X0_presentAt (a : Int32) (s : ga_M) (r : Int32) (h : f_X0_presentAt a s = some r) : T_X0_presentAt gaSH s gp_kI (0, [some (.ref 32), some (.int a), none, none, none], [], gaSH, s, 0, 0) r := (by
    rw [fe_X0_presentAt] at h
    exact ga_T_go (sp := ga_sp [(14, 0, 0, fun L s => match L with
      | [some (.ref 32), _, some (.int l2), some (.int l3), some (.int l4)] => f_X0_presentAt_h14 ga_fuel l2 l3 l4 s
      | _ => none)]) (ga_sp_T (List.forall_mem_cons.mpr ⟨fun L S s1 h => (by
      dsimp only at h
      split at h
      · exact t_X0_presentAt_h14 s ga_fuel _ _ _ _ S s1 _ h
      · cases h), fun _ h => nomatch h⟩)) (n := 600) h)
abbrev T_X7_qualifiedFor {α : Type} (P : ga_S) (s0 : ga_M) (K0 : ga_O → Option α) (cfg : ga_C) (r : α) : Prop := ga_T RX7 cX7_qualifiedFor (ga_lk cl_X7_qualifiedFor) gaGP gaCost (fun _ => []) gaCls 84 0 0 false true false none (fun S σ => S = P ∧ σ = s0) K0 cfg r
set_option maxRecDepth 100000 in
theorem t_X7_qualifiedFor_h4 (s0 : ga_M) : ∀ (n : Nat) (l1 : Int32) (l2 : Int32) (l3 : Int32) (S : ga_S) (s : ga_M) (r : Int32), f_X7_qualifiedFor_h4 n l1 l2 l3 s = some r → T_X7_qualifiedFor gaSH s0 gp_kI (4, [some (.ref 1), some (.int l1), some (.int l2), some (.int l3)], [], S, s, 0, 0) r := by
  intro n
  induction n with
  | zero => intro l1 l2 l3 S s r h; cases h
  | succ n ih => intro l1 l2 l3 S s r h; exact ga_T_S fun hS => (by
    obtain ⟨rfl, rfl⟩ := hS
    exact ga_T_go (sp := ga_sp [(4, 0, 0, fun L s => match L with
      | [some (.ref 1), some (.int l1), some (.int l2), some (.int l3)] => f_X7_qualifiedFor_h4 n l1 l2 l3 s
      | _ => none)]) (ga_sp_T (List.forall_mem_cons.mpr ⟨fun L S s1 h => (by
      dsimp only at h
      split at h
      · exact ih _ _ _  S s1 _ h
      · cases h), fun _ h => nomatch h⟩)) (n := 600) h)
set_option maxRecDepth 100000 in
theorem t_X7_qualifiedFor (a : Int32) (s : ga_M) (r : Int32) (h : f_X7_qualifiedFor a s = some r) : T_X7_qualifiedFor gaSH s gp_kI (0, [some (.ref 1), some (.int a), none, none], [], gaSH, s, 0, 0) r := (by
    rw [fe_X7_qualifiedFor] at h
    exact ga_T_go (sp := ga_sp [(4, 0, 0, fun L s => match L with
      | [some (.ref 1), some (.int l1), some (.int l2), some (.int l3)] => f_X7_qualifiedFor_h4 ga_fuel l1 l2 l3 s
      | _ => none)]) (ga_sp_T (List.forall_mem_cons.mpr ⟨fun L S s1 h => (by
      dsimp only at h
      split at h
      · exact t_X7_qualifiedFor_h4 s ga_fuel _ _ _  S s1 _ h
      · cases h), fun _ h => nomatch h⟩)) (n := 600) h)
abbrev T_X0_busyAt {α : Type} (P : ga_S) (K0 : ga_O → Option α) (cfg : ga_C) (r : α) : Prop := ga_T RX0 cX0_busyAt (ga_lk cl_X0_busyAt) gaG gaCost (fun _ => []) gaCls 84 0 0 false true true none (fun S _ => S = P) K0 cfg r
set_option maxRecDepth 100000 in
theorem t_X0_busyAt_h28 : ∀ (n : Nat) (l1 : Int32) (l2 : Int32) (l3 : Int32) (l4 : Int32) (S : ga_S) (s : ga_M) (r : Int32 × ga_M), f_X0_busyAt_h28 n l1 l2 l3 l4 s = some r → T_X0_busyAt gaSH ga_kI (28, [some (.ref 32), some (.int l1), some (.int l2), some (.int l3), some (.int l4)], [], S, s, 0, 0) r := by
  intro n
  induction n with
  | zero => intro l1 l2 l3 l4 S s r h; cases h
  | succ n ih => intro l1 l2 l3 l4 S s r h; exact ga_T_S fun hS => (by
    cases hS
    exact ga_T_go (sp := ga_sp [(28, 0, 0, fun L s => match L with
      | [some (.ref 32), some (.int l1), some (.int l2), some (.int l3), some (.int l4)] => f_X0_busyAt_h28 n l1 l2 l3 l4 s
      | _ => none)]) (ga_sp_T (List.forall_mem_cons.mpr ⟨fun L S s1 h => (by
      dsimp only at h
      split at h
      · exact ih _ _ _ _  S s1 _ h
      · cases h), fun _ h => nomatch h⟩)) (n := 600) h)
set_option maxRecDepth 100000 in
theorem t_X0_busyAt_h2 : ∀ (n : Nat) (l1 : Int32) (l2 : Int32) (l3 : Int32) (w0 : Option Value) (S : ga_S) (s : ga_M) (r : Int32 × ga_M), f_X0_busyAt_h2 n l1 l2 l3 s = some r → T_X0_busyAt gaSH ga_kI (2, [some (.ref 32), some (.int l1), some (.int l2), some (.int l3), w0], [], S, s, 0, 0) r := by
  intro n
  induction n with
  | zero => intro l1 l2 l3 w0 S s r h; cases h
  | succ n ih => intro l1 l2 l3 w0 S s r h; exact ga_T_S fun hS => (by
    cases hS
    exact ga_T_go (sp := ga_sp [(28, 0, 0, fun L s => match L with
      | [some (.ref 32), some (.int l1), some (.int l2), some (.int l3), some (.int l4)] => f_X0_busyAt_h28 ga_fuel l1 l2 l3 l4 s
      | _ => none), (2, 0, 0, fun L s => match L with
      | [some (.ref 32), some (.int l1), some (.int l2), some (.int l3), _] => f_X0_busyAt_h2 n l1 l2 l3 s
      | _ => none)]) (ga_sp_T (List.forall_mem_cons.mpr ⟨fun L S s1 h => (by
      dsimp only at h
      split at h
      · exact t_X0_busyAt_h28 ga_fuel _ _ _ _  S s1 _ h
      · cases h), List.forall_mem_cons.mpr ⟨fun L S s1 h => (by
      dsimp only at h
      split at h
      · exact ih _ _ _ _ S s1 _ h
      · cases h), fun _ h => nomatch h⟩⟩)) (n := 600) h)
set_option maxRecDepth 100000 in
theorem t_X0_busyAt (a : Int32) (b : Int32) (s : ga_M) (r : Int32 × ga_M) (h : f_X0_busyAt a b s = some r) : T_X0_busyAt gaSH ga_kI (0, [some (.ref 32), some (.int a), some (.int b), none, none], [], gaSH, s, 0, 0) r := (by
    rw [fe_X0_busyAt] at h
    exact ga_T_go (sp := ga_sp [(2, 0, 0, fun L s => match L with
      | [some (.ref 32), some (.int l1), some (.int l2), some (.int l3), _] => f_X0_busyAt_h2 ga_fuel l1 l2 l3 s
      | _ => none)]) (ga_sp_T (List.forall_mem_cons.mpr ⟨fun L S s1 h => (by
      dsimp only at h
      split at h
      · exact t_X0_busyAt_h2 ga_fuel _ _ _ _ S s1 _ h
      · cases h), fun _ h => nomatch h⟩)) (n := 600) h)
