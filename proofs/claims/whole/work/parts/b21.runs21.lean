abbrev T_X7_isQualified {α : Type} (P : ga_S) (s0 : ga_M) (K0 : ga_O → Option α) (cfg : ga_C) (r : α) : Prop := ga_T RX7 cX7_isQualified (ga_lk cl_X7_isQualified) gaGP gaCost (fun _ => []) gaCls 83 0 0 false true false none (fun S σ => S = P ∧ σ = s0) K0 cfg r
set_option maxRecDepth 100000 in
theorem t_X7_isQualified_49 (a : Int32) (b : Int32) (s : ga_M) (r : Int32) (h : f_X7_isQualified_49 a b s = some r) : T_X7_isQualified gaSH s gp_kI (0, [some (.ref 49), some (.int a), some (.int b)], [], gaSH, s, 0, 0) r := (by
    rw [fe_X7_isQualified_49] at h
    exact ga_T_go (sp := ga_sp []) (ga_sp_T (fun _ h => nomatch h)) (n := 600) h)
set_option maxRecDepth 100000 in
theorem t_X7_isTakenAtFirst_49_66_h3 (s0 : ga_M) : ∀ (n : Nat) (l1 : Int32) (l3 : Int32) (l4 : Int32) (S : ga_S) (s : ga_M) (r : Int32), f_X7_isTakenAtFirst_49_66_h3 n l1 l3 l4 s = some r → T_X7_isTakenAtFirst gaSH s0 gp_kI (3, [some (.ref 49), some (.int l1), some (.ref 66), some (.int l3), some (.int l4)], [], S, s, 0, 0) r := by
  intro n
  induction n with
  | zero => intro l1 l3 l4 S s r h; cases h
  | succ n ih => intro l1 l3 l4 S s r h; exact ga_T_S fun hS => (by
    obtain ⟨rfl, rfl⟩ := hS
    exact ga_T_go (sp := ga_sp [(3, 0, 0, fun L s => match L with
      | [some (.ref 49), some (.int l1), some (.ref 66), some (.int l3), some (.int l4)] => f_X7_isTakenAtFirst_49_66_h3 n l1 l3 l4 s
      | _ => none)]) (ga_sp_T (List.forall_mem_cons.mpr ⟨fun L S s1 h => (by
      dsimp only at h
      split at h
      · exact ih _ _ _  S s1 _ h
      · cases h), fun _ h => nomatch h⟩)) (n := 600) h)
set_option maxRecDepth 100000 in
theorem t_X7_isTakenAtFirst_49_66 (a : Int32) (b : Int32) (s : ga_M) (r : Int32) (h : f_X7_isTakenAtFirst_49_66 a b s = some r) : T_X7_isTakenAtFirst gaSH s gp_kI (0, [some (.ref 49), some (.int a), some (.ref 66), some (.int b), none], [], gaSH, s, 0, 0) r := (by
    rw [fe_X7_isTakenAtFirst_49_66] at h
    exact ga_T_go (sp := ga_sp [(3, 0, 0, fun L s => match L with
      | [some (.ref 49), some (.int l1), some (.ref 66), some (.int l3), some (.int l4)] => f_X7_isTakenAtFirst_49_66_h3 ga_fuel l1 l3 l4 s
      | _ => none)]) (ga_sp_T (List.forall_mem_cons.mpr ⟨fun L S s1 h => (by
      dsimp only at h
      split at h
      · exact t_X7_isTakenAtFirst_49_66_h3 s ga_fuel _ _ _  S s1 _ h
      · cases h), fun _ h => nomatch h⟩)) (n := 600) h)
set_option maxRecDepth 100000 in
theorem t_X8_checkUntaken_66 (a : Int32) (b : Int32) (s : ga_M) (r : Int32 × ga_M) (h : f_X8_checkUntaken_66 a b s = some r) : T_X8_checkUntaken gaSH ga_kI (0, [some (.ref 48), some (.int a), some (.ref 66), some (.int b)], [], gaSH, s, 0, 0) r := (by
    rw [fe_X8_checkUntaken_66] at h
    exact ga_T_go (sp := ga_sp []) (ga_sp_T (fun _ h => nomatch h)) (n := 600) h)
abbrev T_X7_addLesson {α : Type} (P : ga_S) (K0 : ga_O → Option α) (cfg : ga_C) (r : α) : Prop := ga_T RX7 cX7_addLesson (ga_lk cl_X7_addLesson) gaG gaCost (fun _ => []) gaCls 83 0 0 false true true none (fun S _ => S = P) K0 cfg r
set_option maxRecDepth 100000 in
theorem t_X7_addLesson_49 (a : Int32) (b : Int32) (c : Int32) (d : Int32) (e : Int32) (s : ga_M) (r : ga_M) (h : f_X7_addLesson_49 a b c d e s = some r) : T_X7_addLesson gaSH ga_kV (0, [some (.ref 49), some (.int a), some (.int b), some (.int c), some (.int d), some (.int e)], [], gaSH, s, 0, 0) r := (by
    rw [fe_X7_addLesson_49] at h
    exact ga_T_go (sp := ga_sp []) (ga_sp_T (fun _ h => nomatch h)) (n := 600) h)
abbrev T_X8_readLesson {α : Type} (P : ga_S) (K0 : ga_O → Option α) (cfg : ga_C) (r : α) : Prop := ga_T RX8 cX8_readLesson (ga_lk cl_X8_readLesson) gaG gaCost (fun _ => []) gaCls 83 0 0 false true true none (fun S _ => S = P) K0 cfg r
set_option maxRecDepth 100000 in
theorem t_X8_readLesson_j155 (l1 : Int32) (l2 : Int32) (l3 : Int32) (l4 : Int32) (S : ga_S) (s : ga_M) (r : Int32 × ga_M) (h : f_X8_readLesson_j155 l1 l2 l3 l4 s = some r) : T_X8_readLesson gaSH ga_kI (155, [some (.ref 48), some (.int l1), some (.int l2), some (.int l3), some (.int l4)], [], S, s, 0, 0) r := ga_T_S fun hS => (by
    cases hS
    rw [fe_X8_readLesson_j155] at h
    exact ga_T_go (sp := ga_sp []) (ga_sp_T (fun _ h => nomatch h)) (n := 600) h)
set_option maxRecDepth 100000 in
theorem t_X8_readLesson_j101 (l1 : Int32) (l2 : Int32) (l3 : Int32) (w0 : Option Value) (S : ga_S) (s : ga_M) (r : Int32 × ga_M) (h : f_X8_readLesson_j101 l1 l2 l3 s = some r) : T_X8_readLesson gaSH ga_kI (101, [some (.ref 48), some (.int l1), some (.int l2), some (.int l3), w0], [], S, s, 0, 0) r := ga_T_S fun hS => (by
    cases hS
    rw [fe_X8_readLesson_j101] at h
    exact ga_T_go (sp := ga_sp [(155, 0, 0, fun L s => match L with
      | [some (.ref 48), some (.int l1), some (.int l2), some (.int l3), some (.int l4)] => f_X8_readLesson_j155 l1 l2 l3 l4 s
      | _ => none)]) (ga_sp_T (List.forall_mem_cons.mpr ⟨fun L S s1 h => (by
      dsimp only at h
      split at h
      · exact t_X8_readLesson_j155 _ _ _ _  S s1 _ h
      · cases h), fun _ h => nomatch h⟩)) (n := 600) h)
set_option maxRecDepth 100000 in
theorem t_X8_readLesson_j48 (l1 : Int32) (w0 : Option Value) (w1 : Option Value) (w2 : Option Value) (S : ga_S) (s : ga_M) (r : Int32 × ga_M) (h : f_X8_readLesson_j48 l1 s = some r) : T_X8_readLesson gaSH ga_kI (48, [some (.ref 48), some (.int l1), w0, w1, w2], [], S, s, 0, 0) r := ga_T_S fun hS => (by
    cases hS
    rw [fe_X8_readLesson_j48] at h
    exact ga_T_go (sp := ga_sp [(101, 0, 0, fun L s => match L with
      | [some (.ref 48), some (.int l1), some (.int l2), some (.int l3), _] => f_X8_readLesson_j101 l1 l2 l3 s
      | _ => none)]) (ga_sp_T (List.forall_mem_cons.mpr ⟨fun L S s1 h => (by
      dsimp only at h
      split at h
      · exact t_X8_readLesson_j101 _ _ _ _ S s1 _ h
      · cases h), fun _ h => nomatch h⟩)) (n := 600) h)
set_option maxRecDepth 100000 in
theorem t_X8_readLesson (s : ga_M) (r : Int32 × ga_M) (h : f_X8_readLesson s = some r) : T_X8_readLesson gaSH ga_kI (0, [some (.ref 48), none, none, none, none], [], gaSH, s, 0, 0) r := (by
    rw [fe_X8_readLesson] at h
    exact ga_T_go (sp := ga_sp [(48, 0, 0, fun L s => match L with
      | [some (.ref 48), some (.int l1), _, _, _] => f_X8_readLesson_j48 l1 s
      | _ => none)]) (ga_sp_T (List.forall_mem_cons.mpr ⟨fun L S s1 h => (by
      dsimp only at h
      split at h
      · exact t_X8_readLesson_j48 _ _ _ _ S s1 _ h
      · cases h), fun _ h => nomatch h⟩)) (n := 600) h)
abbrev T_X8_readLessons {α : Type} (P : ga_S) (K0 : ga_O → Option α) (cfg : ga_C) (r : α) : Prop := ga_T RX8 cX8_readLessons (ga_lk cl_X8_readLessons) gaG gaCost (fun _ => []) gaCls 83 0 0 false true true none (fun S _ => S = P) K0 cfg r
set_option maxRecDepth 100000 in
theorem t_X8_readLessons_h2 : ∀ (n : Nat) (l1 : Int32) (S : ga_S) (s : ga_M) (r : Int32 × ga_M), f_X8_readLessons_h2 n l1 s = some r → T_X8_readLessons gaSH ga_kI (2, [some (.ref 48), some (.int l1)], [], S, s, 0, 0) r := by
  intro n
  induction n with
  | zero => intro l1 S s r h; cases h
  | succ n ih => intro l1 S s r h; exact ga_T_S fun hS => (by
    cases hS
    exact ga_T_go (sp := ga_sp [(2, 0, 0, fun L s => match L with
      | [some (.ref 48), some (.int l1)] => f_X8_readLessons_h2 n l1 s
      | _ => none)]) (ga_sp_T (List.forall_mem_cons.mpr ⟨fun L S s1 h => (by
      dsimp only at h
      split at h
      · exact ih _  S s1 _ h
      · cases h), fun _ h => nomatch h⟩)) (n := 600) h)
set_option maxRecDepth 100000 in
theorem t_X8_readLessons (s : ga_M) (r : Int32 × ga_M) (h : f_X8_readLessons s = some r) : T_X8_readLessons gaSH ga_kI (0, [some (.ref 48), none], [], gaSH, s, 0, 0) r := (by
    rw [fe_X8_readLessons] at h
    exact ga_T_go (sp := ga_sp [(2, 0, 0, fun L s => match L with
      | [some (.ref 48), some (.int l1)] => f_X8_readLessons_h2 ga_fuel l1 s
      | _ => none)]) (ga_sp_T (List.forall_mem_cons.mpr ⟨fun L S s1 h => (by
      dsimp only at h
      split at h
      · exact t_X8_readLessons_h2 ga_fuel _  S s1 _ h
      · cases h), fun _ h => nomatch h⟩)) (n := 600) h)
abbrev T_X8_read {α : Type} (P : ga_S) (K0 : ga_O → Option α) (cfg : ga_C) (r : α) : Prop := ga_T RX8 cX8_read (ga_lk cl_X8_read) gaG gaCost (fun _ => []) gaCls 83 0 0 false true true none (fun S _ => S = P) K0 cfg r
set_option maxRecDepth 100000 in
theorem t_X8_read (s : ga_M) (r : Int32 × ga_M) (h : f_X8_read s = some r) : T_X8_read gaSH ga_kI (0, [some (.ref 48)], [], gaSH, s, 0, 0) r := (by
    rw [fe_X8_read] at h
    exact ga_T_go (sp := ga_sp []) (ga_sp_T (fun _ h => nomatch h)) (n := 600) h)
abbrev T_X7_become {α : Type} (P : ga_S) (K0 : ga_O → Option α) (cfg : ga_C) (r : α) : Prop := ga_T RX7 cX7_become (ga_lk cl_X7_become) gaG gaCost (fun _ => []) gaCls 83 0 0 false true true none (fun S _ => S = P) K0 cfg r
set_option maxRecDepth 100000 in
theorem t_X7_become_49 (s : ga_M) (r : ga_M) (h : f_X7_become_49 s = some r) : T_X7_become gaSH ga_kV (0, [some (.ref 1), some (.ref 49)], [], gaSH, s, 0, 0) r := (by
    rw [fe_X7_become_49] at h
    exact ga_T_go (sp := ga_sp []) (ga_sp_T (fun _ h => nomatch h)) (n := 600) h)
abbrev T_X7_dayOf {α : Type} (P : ga_S) (s0 : ga_M) (K0 : ga_O → Option α) (cfg : ga_C) (r : α) : Prop := ga_T RX7 cX7_dayOf (ga_lk cl_X7_dayOf) gaGP gaCost (fun _ => []) gaCls 83 0 0 false true false none (fun S σ => S = P ∧ σ = s0) K0 cfg r
set_option maxRecDepth 100000 in
theorem t_X7_dayOf (a : Int32) (s : ga_M) (r : Int32) (h : f_X7_dayOf a s = some r) : T_X7_dayOf gaSH s gp_kI (0, [some (.ref 1), some (.int a)], [], gaSH, s, 0, 0) r := (by
    rw [fe_X7_dayOf] at h
    exact ga_T_go (sp := ga_sp []) (ga_sp_T (fun _ h => nomatch h)) (n := 600) h)
abbrev T_X3_isAway {α : Type} (P : ga_S) (s0 : ga_M) (K0 : ga_O → Option α) (cfg : ga_C) (r : α) : Prop := ga_T RX3 cX3_isAway (ga_lk cl_X3_isAway) gaGP gaCost (fun _ => []) gaCls 83 0 0 false true false none (fun S σ => S = P ∧ σ = s0) K0 cfg r
set_option maxRecDepth 100000 in
theorem t_X3_isAway (a : Int32) (b : Int32) (s : ga_M) (r : Int32) (h : f_X3_isAway a b s = some r) : T_X3_isAway gaSH s gp_kI (0, [some (.ref 20), some (.int a), some (.int b)], [], gaSH, s, 0, 0) r := (by
    rw [fe_X3_isAway] at h
    exact ga_T_go (sp := ga_sp []) (ga_sp_T (fun _ h => nomatch h)) (n := 600) h)
abbrev T_X3_isAwayAt {α : Type} (P : ga_S) (s0 : ga_M) (K0 : ga_O → Option α) (cfg : ga_C) (r : α) : Prop := ga_T RX3 cX3_isAwayAt (ga_lk cl_X3_isAwayAt) gaGP gaCost (fun _ => []) gaCls 83 0 0 false true false none (fun S σ => S = P ∧ σ = s0) K0 cfg r
set_option maxRecDepth 100000 in
theorem t_X3_isAwayAt (a : Int32) (b : Int32) (s : ga_M) (r : Int32) (h : f_X3_isAwayAt a b s = some r) : T_X3_isAwayAt gaSH s gp_kI (0, [some (.ref 20), some (.int a), some (.int b)], [], gaSH, s, 0, 0) r := (by
    rw [fe_X3_isAwayAt] at h
    exact ga_T_go (sp := ga_sp []) (ga_sp_T (fun _ h => nomatch h)) (n := 600) h)
abbrev T_X3_returnToFirst {α : Type} (P : ga_S) (K0 : ga_O → Option α) (cfg : ga_C) (r : α) : Prop := ga_T RX3 cX3_returnToFirst (ga_lk cl_X3_returnToFirst) gaG gaCost (fun _ => []) gaCls 83 0 0 false true true none (fun S _ => S = P) K0 cfg r
set_option maxRecDepth 100000 in
theorem t_X3_returnToFirst_h2 : ∀ (n : Nat) (l1 : Int32) (w0 : Option Value) (w1 : Option Value) (S : ga_S) (s : ga_M) (r : ga_M), f_X3_returnToFirst_h2 n l1 s = some r → T_X3_returnToFirst gaSH ga_kV (2, [some (.ref 20), some (.int l1), w0, w1], [], S, s, 0, 0) r := by
  intro n
  induction n with
  | zero => intro l1 w0 w1 S s r h; cases h
  | succ n ih => intro l1 w0 w1 S s r h; exact ga_T_S fun hS => (by
    cases hS
    exact ga_T_go (sp := ga_sp [(2, 0, 0, fun L s => match L with
      | [some (.ref 20), some (.int l1), _, _] => f_X3_returnToFirst_h2 n l1 s
      | _ => none)]) (ga_sp_T (List.forall_mem_cons.mpr ⟨fun L S s1 h => (by
      dsimp only at h
      split at h
      · exact ih _ _ _ S s1 _ h
      · cases h), fun _ h => nomatch h⟩)) (n := 600) h)
set_option maxRecDepth 100000 in
theorem t_X3_returnToFirst (s : ga_M) (r : ga_M) (h : f_X3_returnToFirst s = some r) : T_X3_returnToFirst gaSH ga_kV (0, [some (.ref 20), none, none, none], [], gaSH, s, 0, 0) r := (by
    rw [fe_X3_returnToFirst] at h
    exact ga_T_go (sp := ga_sp [(2, 0, 0, fun L s => match L with
      | [some (.ref 20), some (.int l1), _, _] => f_X3_returnToFirst_h2 ga_fuel l1 s
      | _ => none)]) (ga_sp_T (List.forall_mem_cons.mpr ⟨fun L S s1 h => (by
      dsimp only at h
      split at h
      · exact t_X3_returnToFirst_h2 ga_fuel _ _ _ S s1 _ h
      · cases h), fun _ h => nomatch h⟩)) (n := 600) h)
abbrev T_X3_begin {α : Type} (P : ga_S) (K0 : ga_O → Option α) (cfg : ga_C) (r : α) : Prop := ga_T RX3 cX3_begin (ga_lk cl_X3_begin) gaG gaCost (fun _ => []) gaCls 83 0 0 false true true none (fun S _ => S = P) K0 cfg r
set_option maxRecDepth 100000 in
theorem t_X3_begin_h2 : ∀ (n : Nat) (l1 : Int32) (S : ga_S) (s : ga_M) (r : ga_M), f_X3_begin_h2 n l1 s = some r → T_X3_begin gaSH ga_kV (2, [some (.ref 20), some (.int l1)], [], S, s, 0, 0) r := by
  intro n
  induction n with
  | zero => intro l1 S s r h; cases h
  | succ n ih => intro l1 S s r h; exact ga_T_S fun hS => (by
    cases hS
    exact ga_T_go (sp := ga_sp [(2, 0, 0, fun L s => match L with
      | [some (.ref 20), some (.int l1)] => f_X3_begin_h2 n l1 s
      | _ => none)]) (ga_sp_T (List.forall_mem_cons.mpr ⟨fun L S s1 h => (by
      dsimp only at h
      split at h
      · exact ih _  S s1 _ h
      · cases h), fun _ h => nomatch h⟩)) (n := 600) h)
set_option maxRecDepth 100000 in
theorem t_X3_begin (s : ga_M) (r : ga_M) (h : f_X3_begin s = some r) : T_X3_begin gaSH ga_kV (0, [some (.ref 20), none], [], gaSH, s, 0, 0) r := (by
    rw [fe_X3_begin] at h
    exact ga_T_go (sp := ga_sp [(2, 0, 0, fun L s => match L with
      | [some (.ref 20), some (.int l1)] => f_X3_begin_h2 ga_fuel l1 s
      | _ => none)]) (ga_sp_T (List.forall_mem_cons.mpr ⟨fun L S s1 h => (by
      dsimp only at h
      split at h
      · exact t_X3_begin_h2 ga_fuel _  S s1 _ h
      · cases h), fun _ h => nomatch h⟩)) (n := 600) h)
abbrev T_X1_forget {α : Type} (P : ga_S) (K0 : ga_O → Option α) (cfg : ga_C) (r : α) : Prop := ga_T RX1 cX1_forget (ga_lk cl_X1_forget) gaG gaCost (fun _ => []) gaCls 83 0 0 false true true none (fun S _ => S = P) K0 cfg r
set_option maxRecDepth 100000 in
theorem t_X1_forget (s : ga_M) (r : ga_M) (h : f_X1_forget s = some r) : T_X1_forget gaSH ga_kV (0, [some (.ref 42)], [], gaSH, s, 0, 0) r := (by
    rw [fe_X1_forget] at h
    exact ga_T_go (sp := ga_sp []) (ga_sp_T (fun _ h => nomatch h)) (n := 600) h)
abbrev T_X11_parseSchool {α : Type} (P : ga_S) (K0 : ga_O → Option α) (cfg : ga_C) (r : α) : Prop := ga_T RX11 cX11_parseSchool (ga_lk cl_X11_parseSchool) gaG gaCost (fun _ => []) gaCls 83 0 0 false true true none (fun S _ => S = P) K0 cfg r
set_option maxRecDepth 100000 in
theorem t_X11_parseSchool (s : ga_M) (r : Int32 × ga_M) (h : f_X11_parseSchool s = some r) : T_X11_parseSchool gaSH ga_kI (0, [some (.ref 0), none], [], gaSH, s, 0, 0) r := (by
    rw [fe_X11_parseSchool] at h
    exact ga_T_go (sp := ga_sp []) (ga_sp_T (fun _ h => nomatch h)) (n := 600) h)
abbrev T_X12_byteAt {α : Type} (P : ga_S) (s0 : ga_M) (K0 : ga_O → Option α) (cfg : ga_C) (r : α) : Prop := ga_T RX12 cX12_byteAt (ga_lk cl_X12_byteAt) gaGP gaCost (fun _ => []) gaCls 83 0 0 false true false none (fun S σ => S = P ∧ σ = s0) K0 cfg r
set_option maxRecDepth 100000 in
theorem t_X12_byteAt (a : Int32) (s : ga_M) (r : Int32) (h : f_X12_byteAt a s = some r) : T_X12_byteAt gaSH s gp_kI (0, [some (.ref 72), some (.int a)], [], gaSH, s, 0, 0) r := (by
    rw [fe_X12_byteAt] at h
    exact ga_T_go (sp := ga_sp []) (ga_sp_T (fun _ h => nomatch h)) (n := 600) h)
abbrev T_X12_isLetterAt {α : Type} (P : ga_S) (s0 : ga_M) (K0 : ga_O → Option α) (cfg : ga_C) (r : α) : Prop := ga_T RX12 cX12_isLetterAt (ga_lk cl_X12_isLetterAt) gaGP gaCost (fun _ => []) gaCls 83 0 0 false true false none (fun S σ => S = P ∧ σ = s0) K0 cfg r
set_option maxRecDepth 100000 in
theorem t_X12_isLetterAt (a : Int32) (s : ga_M) (r : Int32) (h : f_X12_isLetterAt a s = some r) : T_X12_isLetterAt gaSH s gp_kI (0, [some (.ref 72), some (.int a)], [], gaSH, s, 0, 0) r := (by
    rw [fe_X12_isLetterAt] at h
    exact ga_T_go (sp := ga_sp []) (ga_sp_T (fun _ h => nomatch h)) (n := 600) h)
abbrev T_X12_isDigitAt {α : Type} (P : ga_S) (s0 : ga_M) (K0 : ga_O → Option α) (cfg : ga_C) (r : α) : Prop := ga_T RX12 cX12_isDigitAt (ga_lk cl_X12_isDigitAt) gaGP gaCost (fun _ => []) gaCls 83 0 0 false true false none (fun S σ => S = P ∧ σ = s0) K0 cfg r
set_option maxRecDepth 100000 in
theorem t_X12_isDigitAt (a : Int32) (s : ga_M) (r : Int32) (h : f_X12_isDigitAt a s = some r) : T_X12_isDigitAt gaSH s gp_kI (0, [some (.ref 72), some (.int a)], [], gaSH, s, 0, 0) r := (by
    rw [fe_X12_isDigitAt] at h
    exact ga_T_go (sp := ga_sp []) (ga_sp_T (fun _ h => nomatch h)) (n := 600) h)
abbrev T_X12_next {α : Type} (P : ga_S) (K0 : ga_O → Option α) (cfg : ga_C) (r : α) : Prop := ga_T RX12 cX12_next (ga_lk cl_X12_next) gaG gaCost (fun _ => []) gaCls 83 0 0 false true true none (fun S _ => S = P) K0 cfg r
set_option maxRecDepth 100000 in
theorem t_X12_next_h101 : ∀ (n : Nat) (S : ga_S) (s : ga_M) (r : ga_M), f_X12_next_h101 n s = some r → T_X12_next gaSH ga_kV (101, [some (.ref 72)], [], S, s, 0, 0) r := by
  intro n
  induction n with
  | zero => intro S s r h; cases h
  | succ n ih => intro S s r h; exact ga_T_S fun hS => (by
    cases hS
    exact ga_T_go (sp := ga_sp [(101, 0, 0, fun L s => match L with
      | [some (.ref 72)] => f_X12_next_h101 n s
      | _ => none)]) (ga_sp_T (List.forall_mem_cons.mpr ⟨fun L S s1 h => (by
      dsimp only at h
      split at h
      · exact ih   S s1 _ h
      · cases h), fun _ h => nomatch h⟩)) (n := 600) h)
set_option maxRecDepth 100000 in
theorem t_X12_next_h66 : ∀ (n : Nat) (S : ga_S) (s : ga_M) (r : ga_M), f_X12_next_h66 n s = some r → T_X12_next gaSH ga_kV (66, [some (.ref 72)], [], S, s, 0, 0) r := by
  intro n
  induction n with
  | zero => intro S s r h; cases h
  | succ n ih => intro S s r h; exact ga_T_S fun hS => (by
    cases hS
    exact ga_T_go (sp := ga_sp [(66, 0, 0, fun L s => match L with
      | [some (.ref 72)] => f_X12_next_h66 n s
      | _ => none)]) (ga_sp_T (List.forall_mem_cons.mpr ⟨fun L S s1 h => (by
      dsimp only at h
      split at h
      · exact ih   S s1 _ h
      · cases h), fun _ h => nomatch h⟩)) (n := 600) h)
set_option maxRecDepth 100000 in
theorem t_X12_next_h8 : ∀ (n : Nat) (S : ga_S) (s : ga_M) (r : ga_M), f_X12_next_h8 n s = some r → T_X12_next gaSH ga_kV (8, [some (.ref 72)], [], S, s, 0, 0) r := by
  intro n
  induction n with
  | zero => intro S s r h; cases h
  | succ n ih => intro S s r h; exact ga_T_S fun hS => (by
    cases hS
    exact ga_T_go (sp := ga_sp [(8, 0, 0, fun L s => match L with
      | [some (.ref 72)] => f_X12_next_h8 n s
      | _ => none), (101, 0, 0, fun L s => match L with
      | [some (.ref 72)] => f_X12_next_h101 ga_fuel s
      | _ => none), (66, 0, 0, fun L s => match L with
      | [some (.ref 72)] => f_X12_next_h66 ga_fuel s
      | _ => none)]) (ga_sp_T (List.forall_mem_cons.mpr ⟨fun L S s1 h => (by
      dsimp only at h
      split at h
      · exact ih   S s1 _ h
      · cases h), List.forall_mem_cons.mpr ⟨fun L S s1 h => (by
      dsimp only at h
      split at h
      · exact t_X12_next_h101 ga_fuel   S s1 _ h
      · cases h), List.forall_mem_cons.mpr ⟨fun L S s1 h => (by
      dsimp only at h
      split at h
      · exact t_X12_next_h66 ga_fuel   S s1 _ h
      · cases h), fun _ h => nomatch h⟩⟩⟩)) (n := 600) h)
set_option maxRecDepth 100000 in
theorem t_X12_next (s : ga_M) (r : ga_M) (h : f_X12_next s = some r) : T_X12_next gaSH ga_kV (0, [some (.ref 72)], [], gaSH, s, 0, 0) r := (by
    rw [fe_X12_next] at h
    exact ga_T_go (sp := ga_sp [(8, 0, 0, fun L s => match L with
      | [some (.ref 72)] => f_X12_next_h8 ga_fuel s
      | _ => none)]) (ga_sp_T (List.forall_mem_cons.mpr ⟨fun L S s1 h => (by
      dsimp only at h
      split at h
      · exact t_X12_next_h8 ga_fuel   S s1 _ h
      · cases h), fun _ h => nomatch h⟩)) (n := 600) h)
abbrev T_X12_begin {α : Type} (P : ga_S) (K0 : ga_O → Option α) (cfg : ga_C) (r : α) : Prop := ga_T RX12 cX12_begin (ga_lk cl_X12_begin) gaG gaCost (fun _ => []) gaCls 83 0 0 false true true none (fun S _ => S = P) K0 cfg r
set_option maxRecDepth 100000 in
theorem t_X12_begin (s : ga_M) (r : ga_M) (h : f_X12_begin s = some r) : T_X12_begin gaSH ga_kV (0, [some (.ref 72)], [], gaSH, s, 0, 0) r := (by
    rw [fe_X12_begin] at h
    exact ga_T_go (sp := ga_sp []) (ga_sp_T (fun _ h => nomatch h)) (n := 600) h)
abbrev T_X12_isWord {α : Type} (P : ga_S) (s0 : ga_M) (K0 : ga_O → Option α) (cfg : ga_C) (r : α) : Prop := ga_T RX12 cX12_isWord (ga_lk cl_X12_isWord) gaGP gaCost (fun _ => []) gaCls 83 0 0 false true false none (fun S σ => S = P ∧ σ = s0) K0 cfg r
set_option maxRecDepth 100000 in
theorem t_X12_isWord_h31 (s0 : ga_M) : ∀ (n : Nat) (l1 : Nat) (l2 : Int32) (l3 : Int32) (S : ga_S) (s : ga_M) (r : Int32), f_X12_isWord_h31 n l1 l2 l3 s = some r → T_X12_isWord gaSH s0 gp_kI (31, [some (.ref 72), some (.ref l1), some (.int l2), some (.int l3)], [], S, s, 0, 0) r := by
  intro n
  induction n with
  | zero => intro l1 l2 l3 S s r h; cases h
  | succ n ih => intro l1 l2 l3 S s r h; exact ga_T_S fun hS => (by
    obtain ⟨rfl, rfl⟩ := hS
    exact ga_T_go (sp := ga_sp [(31, 0, 0, fun L s => match L with
      | [some (.ref 72), some (.ref l1), some (.int l2), some (.int l3)] => f_X12_isWord_h31 n l1 l2 l3 s
      | _ => none)]) (ga_sp_T (List.forall_mem_cons.mpr ⟨fun L S s1 h => (by
      dsimp only at h
      split at h
      · exact ih _ _ _  S s1 _ h
      · cases h), fun _ h => nomatch h⟩)) (n := 600) h)
set_option maxRecDepth 100000 in
theorem t_X12_isWord (a : Nat) (s : ga_M) (r : Int32) (h : f_X12_isWord a s = some r) : T_X12_isWord gaSH s gp_kI (0, [some (.ref 72), some (.ref a), none, none], [], gaSH, s, 0, 0) r := (by
    rw [fe_X12_isWord] at h
    exact ga_T_go (sp := ga_sp [(31, 0, 0, fun L s => match L with
      | [some (.ref 72), some (.ref l1), some (.int l2), some (.int l3)] => f_X12_isWord_h31 ga_fuel l1 l2 l3 s
      | _ => none)]) (ga_sp_T (List.forall_mem_cons.mpr ⟨fun L S s1 h => (by
      dsimp only at h
      split at h
      · exact t_X12_isWord_h31 s ga_fuel _ _ _  S s1 _ h
      · cases h), fun _ h => nomatch h⟩)) (n := 600) h)
abbrev T_X12_goOn {α : Type} (P : ga_S) (K0 : ga_O → Option α) (cfg : ga_C) (r : α) : Prop := ga_T RX12 cX12_goOn (ga_lk cl_X12_goOn) gaG gaCost (fun _ => []) gaCls 83 0 0 false true true none (fun S _ => S = P) K0 cfg r
set_option maxRecDepth 100000 in
theorem t_X12_goOn (s : ga_M) (r : ga_M) (h : f_X12_goOn s = some r) : T_X12_goOn gaSH ga_kV (0, [some (.ref 72)], [], gaSH, s, 0, 0) r := (by
    rw [fe_X12_goOn] at h
    exact ga_T_go (sp := ga_sp []) (ga_sp_T (fun _ h => nomatch h)) (n := 600) h)
abbrev T_X12_wrong {α : Type} (P : ga_S) (K0 : ga_O → Option α) (cfg : ga_C) (r : α) : Prop := ga_T RX12 cX12_wrong (ga_lk cl_X12_wrong) gaG gaCost (fun _ => []) gaCls 83 0 0 false true true none (fun S _ => S = P) K0 cfg r
set_option maxRecDepth 100000 in
theorem t_X12_wrong (a : Int32) (s : ga_M) (r : ga_M) (h : f_X12_wrong a s = some r) : T_X12_wrong gaSH ga_kV (0, [some (.ref 72), some (.int a)], [], gaSH, s, 0, 0) r := (by
    rw [fe_X12_wrong] at h
    exact ga_T_go (sp := ga_sp []) (ga_sp_T (fun _ h => nomatch h)) (n := 600) h)
abbrev T_X12_must {α : Type} (P : ga_S) (K0 : ga_O → Option α) (cfg : ga_C) (r : α) : Prop := ga_T RX12 cX12_must (ga_lk cl_X12_must) gaG gaCost (fun _ => []) gaCls 83 0 0 false true true none (fun S _ => S = P) K0 cfg r
set_option maxRecDepth 100000 in
theorem t_X12_must (a : Nat) (s : ga_M) (r : ga_M) (h : f_X12_must a s = some r) : T_X12_must gaSH ga_kV (0, [some (.ref 72), some (.ref a)], [], gaSH, s, 0, 0) r := (by
    rw [fe_X12_must] at h
    exact ga_T_go (sp := ga_sp []) (ga_sp_T (fun _ h => nomatch h)) (n := 600) h)
abbrev T_X12_digits {α : Type} (P : ga_S) (s0 : ga_M) (K0 : ga_O → Option α) (cfg : ga_C) (r : α) : Prop := ga_T RX12 cX12_digits (ga_lk cl_X12_digits) gaGP gaCost (fun _ => []) gaCls 83 0 0 false false false none (fun S σ => S = P ∧ σ = s0) K0 cfg r
set_option maxRecDepth 100000 in
theorem t_X12_digits_h7 (s0 : ga_M) : ∀ (n : Nat) (l1 : Int64) (l3 : Int32) (w0 : Option Value) (S : ga_S) (s : ga_M) (r : Int64), f_X12_digits_h7 n l1 l3 s = some r → T_X12_digits gaSH s0 gp_kJ (7, [some (.ref 72), some (.long l1), w0, some (.int l3)], [], S, s, 0, 0) r := by
  intro n
  induction n with
  | zero => intro l1 l3 w0 S s r h; cases h
  | succ n ih => intro l1 l3 w0 S s r h; exact ga_T_S fun hS => (by
    obtain ⟨rfl, rfl⟩ := hS
    exact ga_T_go (sp := ga_sp [(7, 0, 0, fun L s => match L with
      | [some (.ref 72), some (.long l1), _, some (.int l3)] => f_X12_digits_h7 n l1 l3 s
      | _ => none)]) (ga_sp_T (List.forall_mem_cons.mpr ⟨fun L S s1 h => (by
      dsimp only at h
      split at h
      · exact ih _ _ _ S s1 _ h
      · cases h), fun _ h => nomatch h⟩)) (n := 600) h)
set_option maxRecDepth 100000 in
theorem t_X12_digits (s : ga_M) (r : Int64) (h : f_X12_digits s = some r) : T_X12_digits gaSH s gp_kJ (0, [some (.ref 72), none, none, none], [], gaSH, s, 0, 0) r := (by
    rw [fe_X12_digits] at h
    exact ga_T_go (sp := ga_sp [(7, 0, 0, fun L s => match L with
      | [some (.ref 72), some (.long l1), _, some (.int l3)] => f_X12_digits_h7 ga_fuel l1 l3 s
      | _ => none)]) (ga_sp_T (List.forall_mem_cons.mpr ⟨fun L S s1 h => (by
      dsimp only at h
      split at h
      · exact t_X12_digits_h7 s ga_fuel _ _ _ S s1 _ h
      · cases h), fun _ h => nomatch h⟩)) (n := 600) h)
abbrev T_X12_see {α : Type} (P : ga_S) (K0 : ga_O → Option α) (cfg : ga_C) (r : α) : Prop := ga_T RX12 cX12_see (ga_lk cl_X12_see) gaG gaCost (fun _ => []) gaCls 83 0 0 false true true none (fun S _ => S = P) K0 cfg r
set_option maxRecDepth 100000 in
theorem t_X12_see (a : Int32) (b : Int32) (s : ga_M) (r : Int32 × ga_M) (h : f_X12_see a b s = some r) : T_X12_see gaSH ga_kI (0, [some (.ref 72), some (.int a), some (.int b)], [], gaSH, s, 0, 0) r := (by
    rw [fe_X12_see] at h
    exact ga_T_go (sp := ga_sp []) (ga_sp_T (fun _ h => nomatch h)) (n := 600) h)
abbrev T_X12_number {α : Type} (P : ga_S) (K0 : ga_O → Option α) (cfg : ga_C) (r : α) : Prop := ga_T RX12 cX12_number (ga_lk cl_X12_number) gaG gaCost (fun _ => []) gaCls 83 0 0 false true true none (fun S _ => S = P) K0 cfg r
set_option maxRecDepth 100000 in
theorem t_X12_number (a : Int32) (b : Int32) (s : ga_M) (r : Int32 × ga_M) (h : f_X12_number a b s = some r) : T_X12_number gaSH ga_kI (0, [some (.ref 72), some (.int a), some (.int b), none], [], gaSH, s, 0, 0) r := (by
    rw [fe_X12_number] at h
    exact ga_T_go (sp := ga_sp []) (ga_sp_T (fun _ h => nomatch h)) (n := 600) h)
abbrev T_X12_opensThing {α : Type} (P : ga_S) (K0 : ga_O → Option α) (cfg : ga_C) (r : α) : Prop := ga_T RX12 cX12_opensThing (ga_lk cl_X12_opensThing) gaG gaCost (fun _ => []) gaCls 83 0 0 false true true none (fun S _ => S = P) K0 cfg r
set_option maxRecDepth 100000 in
theorem t_X12_opensThing (a : Int32) (b : Int32) (s : ga_M) (r : Int32 × ga_M) (h : f_X12_opensThing a b s = some r) : T_X12_opensThing gaSH ga_kI (0, [some (.ref 72), some (.int a), some (.int b)], [], gaSH, s, 0, 0) r := (by
    rw [fe_X12_opensThing] at h
    exact ga_T_go (sp := ga_sp []) (ga_sp_T (fun _ h => nomatch h)) (n := 600) h)
abbrev T_X12_readKinds {α : Type} (P : ga_S) (K0 : ga_O → Option α) (cfg : ga_C) (r : α) : Prop := ga_T RX12 cX12_readKinds (ga_lk cl_X12_readKinds) gaG gaCost (fun _ => []) gaCls 83 0 0 false true true none (fun S _ => S = P) K0 cfg r
set_option maxRecDepth 100000 in
theorem t_X12_readKinds_h13 : ∀ (n : Nat) (l1 : Nat) (l2 : Int32) (l3 : Int32) (l4 : Int32) (w0 : Option Value) (S : ga_S) (s : ga_M) (r : ga_M), f_X12_readKinds_h13 n l1 l2 l3 l4 s = some r → T_X12_readKinds gaSH ga_kV (13, [some (.ref 72), some (.ref l1), some (.int l2), some (.int l3), some (.int l4), w0], [], S, s, 0, 0) r := by
  intro n
  induction n with
  | zero => intro l1 l2 l3 l4 w0 S s r h; cases h
  | succ n ih => intro l1 l2 l3 l4 w0 S s r h; exact ga_T_S fun hS => (by
    cases hS
    exact ga_T_go (sp := ga_sp [(13, 0, 0, fun L s => match L with
      | [some (.ref 72), some (.ref l1), some (.int l2), some (.int l3), some (.int l4), _] => f_X12_readKinds_h13 n l1 l2 l3 l4 s
      | _ => none)]) (ga_sp_T (List.forall_mem_cons.mpr ⟨fun L S s1 h => (by
      dsimp only at h
      split at h
      · exact ih _ _ _ _ _ S s1 _ h
      · cases h), fun _ h => nomatch h⟩)) (n := 600) h)
set_option maxRecDepth 100000 in
theorem t_X12_readKinds (a : Nat) (b : Int32) (c : Int32) (d : Int32) (s : ga_M) (r : ga_M) (h : f_X12_readKinds a b c d s = some r) : T_X12_readKinds gaSH ga_kV (0, [some (.ref 72), some (.ref a), some (.int b), some (.int c), some (.int d), none], [], gaSH, s, 0, 0) r := (by
    rw [fe_X12_readKinds] at h
    exact ga_T_go (sp := ga_sp [(13, 0, 0, fun L s => match L with
      | [some (.ref 72), some (.ref l1), some (.int l2), some (.int l3), some (.int l4), _] => f_X12_readKinds_h13 ga_fuel l1 l2 l3 l4 s
      | _ => none)]) (ga_sp_T (List.forall_mem_cons.mpr ⟨fun L S s1 h => (by
      dsimp only at h
      split at h
      · exact t_X12_readKinds_h13 ga_fuel _ _ _ _ _ S s1 _ h
      · cases h), fun _ h => nomatch h⟩)) (n := 600) h)
abbrev T_X12_has {α : Type} (P : ga_S) (s0 : ga_M) (K0 : ga_O → Option α) (cfg : ga_C) (r : α) : Prop := ga_T RX12 cX12_has (ga_lk cl_X12_has) gaGP gaCost (fun _ => []) gaCls 83 0 0 false true false none (fun S σ => S = P ∧ σ = s0) K0 cfg r
set_option maxRecDepth 100000 in
theorem t_X12_has (a : Int32) (b : Int32) (s : ga_M) (r : Int32) (h : f_X12_has a b s = some r) : T_X12_has gaSH s gp_kI (0, [some (.int a), some (.int b)], [], gaSH, s, 0, 0) r := (by
    rw [fe_X12_has] at h
    exact ga_T_go (sp := ga_sp []) (ga_sp_T (fun _ h => nomatch h)) (n := 600) h)
abbrev T_X12_readTeachers {α : Type} (P : ga_S) (K0 : ga_O → Option α) (cfg : ga_C) (r : α) : Prop := ga_T RX12 cX12_readTeachers (ga_lk cl_X12_readTeachers) gaG gaCost (fun _ => []) gaCls 83 0 0 false true true none (fun S _ => S = P) K0 cfg r
set_option maxRecDepth 100000 in
theorem t_X12_readTeachers_h46 {go15 : ga_M → Option (ga_M)} (hgo15 : ∀ (w0 : Option Value) (w1 : Option Value) (w2 : Option Value) (S : ga_S) (s : ga_M) (r : ga_M), go15  s = some r → T_X12_readTeachers gaSH ga_kV (15, [some (.ref 72), w0, w1, w2], [], S, s, 0, 0) r) : ∀ (n : Nat) (l1 : Int32) (l2 : Int32) (w0 : Option Value) (S : ga_S) (s : ga_M) (r : ga_M), f_X12_readTeachers_h46 go15 n l1 l2 s = some r → T_X12_readTeachers gaSH ga_kV (46, [some (.ref 72), some (.int l1), some (.int l2), w0], [], S, s, 0, 0) r := by
  intro n
  induction n with
  | zero => intro l1 l2 w0 S s r h; cases h
  | succ n ih => intro l1 l2 w0 S s r h; exact ga_T_S fun hS => (by
    cases hS
    exact ga_T_go (sp := ga_sp [(15, 0, 0, fun L s => match L with
      | [some (.ref 72), _, _, _] => go15 s
      | _ => none), (46, 0, 0, fun L s => match L with
      | [some (.ref 72), some (.int l1), some (.int l2), _] => f_X12_readTeachers_h46 go15 n l1 l2 s
      | _ => none)]) (ga_sp_T (List.forall_mem_cons.mpr ⟨fun L S s1 h => (by
      dsimp only at h
      split at h
      · exact hgo15  _ _ _ S s1 _ h
      · cases h), List.forall_mem_cons.mpr ⟨fun L S s1 h => (by
      dsimp only at h
      split at h
      · exact ih _ _ _ S s1 _ h
      · cases h), fun _ h => nomatch h⟩⟩)) (n := 600) h)
set_option maxRecDepth 100000 in
theorem t_X12_readTeachers_h15 : ∀ (n : Nat) (w0 : Option Value) (w1 : Option Value) (w2 : Option Value) (S : ga_S) (s : ga_M) (r : ga_M), f_X12_readTeachers_h15 n s = some r → T_X12_readTeachers gaSH ga_kV (15, [some (.ref 72), w0, w1, w2], [], S, s, 0, 0) r := by
  intro n
  induction n with
  | zero => intro w0 w1 w2 S s r h; cases h
  | succ n ih => intro w0 w1 w2 S s r h; exact ga_T_S fun hS => (by
    cases hS
    exact ga_T_go (sp := ga_sp [(46, 0, 0, fun L s => match L with
      | [some (.ref 72), some (.int l1), some (.int l2), _] => f_X12_readTeachers_h46 (f_X12_readTeachers_h15 n) ga_fuel l1 l2 s
      | _ => none)]) (ga_sp_T (List.forall_mem_cons.mpr ⟨fun L S s1 h => (by
      dsimp only at h
      split at h
      · exact t_X12_readTeachers_h46 ih ga_fuel _ _ _ S s1 _ h
      · cases h), fun _ h => nomatch h⟩)) (n := 600) h)
set_option maxRecDepth 100000 in
theorem t_X12_readTeachers (s : ga_M) (r : ga_M) (h : f_X12_readTeachers s = some r) : T_X12_readTeachers gaSH ga_kV (0, [some (.ref 72), none, none, none], [], gaSH, s, 0, 0) r := (by
    rw [fe_X12_readTeachers] at h
    exact ga_T_go (sp := ga_sp [(15, 0, 0, fun L s => match L with
      | [some (.ref 72), _, _, _] => f_X12_readTeachers_h15 ga_fuel s
      | _ => none)]) (ga_sp_T (List.forall_mem_cons.mpr ⟨fun L S s1 h => (by
      dsimp only at h
      split at h
      · exact t_X12_readTeachers_h15 ga_fuel  _ _ _ S s1 _ h
      · cases h), fun _ h => nomatch h⟩)) (n := 600) h)
