abbrev T_X10_append {α : Type} (P : ga_S) (K0 : ga_O → Option α) (cfg : ga_C) (r : α) : Prop := ga_T RX10 cX10_append (ga_lk cl_X10_append) gaG gaCost (fun _ => []) gaCls 84 0 0 false true true none (fun S _ => S = P) K0 cfg r
set_option maxRecDepth 100000 in
theorem t_X10_append_h3 : ∀ (n : Nat) (l1 : Int32) (l2 : Int32) (S : ga_S) (s : ga_M) (r : ga_M), f_X10_append_h3 n l1 l2 s = some r → T_X10_append gaSH ga_kV (3, [some (.ref 45), some (.int l1), some (.int l2)], [], S, s, 0, 0) r := by
  intro n
  induction n with
  | zero => intro l1 l2 S s r h; cases h
  | succ n ih => intro l1 l2 S s r h; exact ga_T_S fun hS => (by
    cases hS
    exact ga_T_go (sp := ga_sp [(3, 0, 0, fun L s => match L with
      | [some (.ref 45), some (.int l1), some (.int l2)] => f_X10_append_h3 n l1 l2 s
      | _ => none)]) (ga_sp_T (List.forall_mem_cons.mpr ⟨fun L S s1 h => (by
      dsimp only at h
      split at h
      · exact ih _ _  S s1 _ h
      · cases h), fun _ h => nomatch h⟩)) (n := 600) h)
set_option maxRecDepth 100000 in
theorem t_X10_append (a : Int32) (s : ga_M) (r : ga_M) (h : f_X10_append a s = some r) : T_X10_append gaSH ga_kV (0, [some (.ref 45), some (.int a), none], [], gaSH, s, 0, 0) r := (by
    rw [fe_X10_append] at h
    exact ga_T_go (sp := ga_sp [(3, 0, 0, fun L s => match L with
      | [some (.ref 45), some (.int l1), some (.int l2)] => f_X10_append_h3 ga_fuel l1 l2 s
      | _ => none)]) (ga_sp_T (List.forall_mem_cons.mpr ⟨fun L S s1 h => (by
      dsimp only at h
      split at h
      · exact t_X10_append_h3 ga_fuel _ _  S s1 _ h
      · cases h), fun _ h => nomatch h⟩)) (n := 600) h)
abbrev T_X11_appendText {α : Type} (P : ga_S) (K0 : ga_O → Option α) (cfg : ga_C) (r : α) : Prop := ga_T RX11 cX11_appendText (ga_lk cl_X11_appendText) gaG gaCost (fun _ => []) gaCls 84 1 6 false true true none (fun S _ => S = P) K0 cfg r
set_option maxRecDepth 100000 in
theorem t_X11_appendText (a : Int32) (b : Int32) (c : Int32) (d : Int32) (e : Int32) (s : ga_M) (r : (Int32 ⊕ Nat) × ga_M) (h : f_X11_appendText a b c d e s = some r) : T_X11_appendText gaSH ga_kIX (0, [some (.ref 0), some (.int a), some (.int b), some (.int c), some (.int d), some (.int e)], [], gaSH, s, 0, 0) r := (by
    rw [fe_X11_appendText] at h
    exact ga_T_go (sp := ga_sp []) (ga_sp_T (fun _ h => nomatch h)) (n := 600) h)
abbrev T_X11_truncateText {α : Type} (P : ga_S) (K0 : ga_O → Option α) (cfg : ga_C) (r : α) : Prop := ga_T RX11 cX11_truncateText (ga_lk cl_X11_truncateText) gaG gaCost (fun _ => []) gaCls 84 1 6 false true true none (fun S _ => S = P) K0 cfg r
set_option maxRecDepth 100000 in
theorem t_X11_truncateText (a : Int32) (s : ga_M) (r : (Int32 ⊕ Nat) × ga_M) (h : f_X11_truncateText a s = some r) : T_X11_truncateText gaSH ga_kIX (0, [some (.ref 0), some (.int a)], [], gaSH, s, 0, 0) r := (by
    rw [fe_X11_truncateText] at h
    exact ga_T_go (sp := ga_sp []) (ga_sp_T (fun _ h => nomatch h)) (n := 600) h)
abbrev T_X7_becomeEmpty {α : Type} (P : ga_S) (K0 : ga_O → Option α) (cfg : ga_C) (r : α) : Prop := ga_T RX7 cX7_becomeEmpty (ga_lk cl_X7_becomeEmpty) gaG gaCost (fun _ => []) gaCls 84 0 0 false true true none (fun S _ => S = P) K0 cfg r
set_option maxRecDepth 100000 in
theorem t_X7_becomeEmpty_49 (s : ga_M) (r : ga_M) (h : f_X7_becomeEmpty_49 s = some r) : T_X7_becomeEmpty gaSH ga_kV (0, [some (.ref 49)], [], gaSH, s, 0, 0) r := (by
    rw [fe_X7_becomeEmpty_49] at h
    exact ga_T_go (sp := ga_sp []) (ga_sp_T (fun _ h => nomatch h)) (n := 600) h)
abbrev T_X10_afterBlanks {α : Type} (P : ga_S) (s0 : ga_M) (K0 : ga_O → Option α) (cfg : ga_C) (r : α) : Prop := ga_T RX10 cX10_afterBlanks (ga_lk cl_X10_afterBlanks) gaGP gaCost (fun _ => []) gaCls 84 0 0 false true false none (fun S σ => S = P ∧ σ = s0) K0 cfg r
set_option maxRecDepth 100000 in
theorem t_X10_afterBlanks_h2 (s0 : ga_M) : ∀ (n : Nat) (l2 : Int32) (w0 : Option Value) (S : ga_S) (s : ga_M) (r : Int32), f_X10_afterBlanks_h2 n l2 s = some r → T_X10_afterBlanks gaSH s0 gp_kI (2, [some (.ref 45), w0, some (.int l2)], [], S, s, 0, 0) r := by
  intro n
  induction n with
  | zero => intro l2 w0 S s r h; cases h
  | succ n ih => intro l2 w0 S s r h; exact ga_T_S fun hS => (by
    obtain ⟨rfl, rfl⟩ := hS
    exact ga_T_go (sp := ga_sp [(2, 0, 0, fun L s => match L with
      | [some (.ref 45), _, some (.int l2)] => f_X10_afterBlanks_h2 n l2 s
      | _ => none)]) (ga_sp_T (List.forall_mem_cons.mpr ⟨fun L S s1 h => (by
      dsimp only at h
      split at h
      · exact ih _ _ S s1 _ h
      · cases h), fun _ h => nomatch h⟩)) (n := 600) h)
set_option maxRecDepth 100000 in
theorem t_X10_afterBlanks (a : Int32) (s : ga_M) (r : Int32) (h : f_X10_afterBlanks a s = some r) : T_X10_afterBlanks gaSH s gp_kI (0, [some (.ref 45), some (.int a), none], [], gaSH, s, 0, 0) r := (by
    rw [fe_X10_afterBlanks] at h
    exact ga_T_go (sp := ga_sp [(2, 0, 0, fun L s => match L with
      | [some (.ref 45), _, some (.int l2)] => f_X10_afterBlanks_h2 ga_fuel l2 s
      | _ => none)]) (ga_sp_T (List.forall_mem_cons.mpr ⟨fun L S s1 h => (by
      dsimp only at h
      split at h
      · exact t_X10_afterBlanks_h2 s ga_fuel _ _ S s1 _ h
      · cases h), fun _ h => nomatch h⟩)) (n := 600) h)
abbrev T_X10_isLetter {α : Type} (P : ga_S) (s0 : ga_M) (K0 : ga_O → Option α) (cfg : ga_C) (r : α) : Prop := ga_T RX10 cX10_isLetter (ga_lk cl_X10_isLetter) gaGP gaCost (fun _ => []) gaCls 84 0 0 false true false none (fun S σ => S = P ∧ σ = s0) K0 cfg r
set_option maxRecDepth 100000 in
theorem t_X10_isLetter (a : Int32) (s : ga_M) (r : Int32) (h : f_X10_isLetter a s = some r) : T_X10_isLetter gaSH s gp_kI (0, [some (.int a)], [], gaSH, s, 0, 0) r := (by
    rw [fe_X10_isLetter] at h
    exact ga_T_go (sp := ga_sp []) (ga_sp_T (fun _ h => nomatch h)) (n := 600) h)
abbrev T_X10_isDigit {α : Type} (P : ga_S) (s0 : ga_M) (K0 : ga_O → Option α) (cfg : ga_C) (r : α) : Prop := ga_T RX10 cX10_isDigit (ga_lk cl_X10_isDigit) gaGP gaCost (fun _ => []) gaCls 84 0 0 false true false none (fun S σ => S = P ∧ σ = s0) K0 cfg r
set_option maxRecDepth 100000 in
theorem t_X10_isDigit (a : Int32) (s : ga_M) (r : Int32) (h : f_X10_isDigit a s = some r) : T_X10_isDigit gaSH s gp_kI (0, [some (.int a)], [], gaSH, s, 0, 0) r := (by
    rw [fe_X10_isDigit] at h
    exact ga_T_go (sp := ga_sp []) (ga_sp_T (fun _ h => nomatch h)) (n := 600) h)
abbrev T_J9_min_7cf53 {α : Type} (P : ga_S) (s0 : ga_M) (K0 : ga_O → Option α) (cfg : ga_C) (r : α) : Prop := ga_T RJ9 cJ9_min_7cf53 (ga_lk cl_J9_min_7cf53) gaGP gaCost (fun _ => []) gaCls 84 0 0 false true false none (fun S σ => S = P ∧ σ = s0) K0 cfg r
set_option maxRecDepth 100000 in
theorem t_J9_min_7cf53 (a : Int32) (b : Int32) (s : ga_M) (r : Int32) (h : f_J9_min_7cf53 a b s = some r) : T_J9_min_7cf53 gaSH s gp_kI (0, [some (.int a), some (.int b)], [], gaSH, s, 0, 0) r := (by
    rw [fe_J9_min_7cf53] at h
    exact ga_T_go (sp := ga_sp []) (ga_sp_T (fun _ h => nomatch h)) (n := 600) h)
abbrev T_X10_afterDigits {α : Type} (P : ga_S) (K0 : ga_O → Option α) (cfg : ga_C) (r : α) : Prop := ga_T RX10 cX10_afterDigits (ga_lk cl_X10_afterDigits) gaG gaCost (fun _ => []) gaCls 84 0 0 false true true none (fun S _ => S = P) K0 cfg r
set_option maxRecDepth 100000 in
theorem t_X10_afterDigits_h7 : ∀ (n : Nat) (l2 : Int32) (w0 : Option Value) (S : ga_S) (s : ga_M) (r : Int32 × ga_M), f_X10_afterDigits_h7 n l2 s = some r → T_X10_afterDigits gaSH ga_kI (7, [some (.ref 45), w0, some (.int l2)], [], S, s, 0, 0) r := by
  intro n
  induction n with
  | zero => intro l2 w0 S s r h; cases h
  | succ n ih => intro l2 w0 S s r h; exact ga_T_S fun hS => (by
    cases hS
    exact ga_T_go (sp := ga_sp [(7, 0, 0, fun L s => match L with
      | [some (.ref 45), _, some (.int l2)] => f_X10_afterDigits_h7 n l2 s
      | _ => none)]) (ga_sp_T (List.forall_mem_cons.mpr ⟨fun L S s1 h => (by
      dsimp only at h
      split at h
      · exact ih _ _ S s1 _ h
      · cases h), fun _ h => nomatch h⟩)) (n := 600) h)
set_option maxRecDepth 100000 in
theorem t_X10_afterDigits (a : Int32) (s : ga_M) (r : Int32 × ga_M) (h : f_X10_afterDigits a s = some r) : T_X10_afterDigits gaSH ga_kI (0, [some (.ref 45), some (.int a), none], [], gaSH, s, 0, 0) r := (by
    rw [fe_X10_afterDigits] at h
    exact ga_T_go (sp := ga_sp [(7, 0, 0, fun L s => match L with
      | [some (.ref 45), _, some (.int l2)] => f_X10_afterDigits_h7 ga_fuel l2 s
      | _ => none)]) (ga_sp_T (List.forall_mem_cons.mpr ⟨fun L S s1 h => (by
      dsimp only at h
      split at h
      · exact t_X10_afterDigits_h7 ga_fuel _ _ S s1 _ h
      · cases h), fun _ h => nomatch h⟩)) (n := 600) h)
abbrev T_X10_afterLetters {α : Type} (P : ga_S) (s0 : ga_M) (K0 : ga_O → Option α) (cfg : ga_C) (r : α) : Prop := ga_T RX10 cX10_afterLetters (ga_lk cl_X10_afterLetters) gaGP gaCost (fun _ => []) gaCls 84 0 0 false true false none (fun S σ => S = P ∧ σ = s0) K0 cfg r
set_option maxRecDepth 100000 in
theorem t_X10_afterLetters_h2 (s0 : ga_M) : ∀ (n : Nat) (l2 : Int32) (w0 : Option Value) (S : ga_S) (s : ga_M) (r : Int32), f_X10_afterLetters_h2 n l2 s = some r → T_X10_afterLetters gaSH s0 gp_kI (2, [some (.ref 45), w0, some (.int l2)], [], S, s, 0, 0) r := by
  intro n
  induction n with
  | zero => intro l2 w0 S s r h; cases h
  | succ n ih => intro l2 w0 S s r h; exact ga_T_S fun hS => (by
    obtain ⟨rfl, rfl⟩ := hS
    exact ga_T_go (sp := ga_sp [(2, 0, 0, fun L s => match L with
      | [some (.ref 45), _, some (.int l2)] => f_X10_afterLetters_h2 n l2 s
      | _ => none)]) (ga_sp_T (List.forall_mem_cons.mpr ⟨fun L S s1 h => (by
      dsimp only at h
      split at h
      · exact ih _ _ S s1 _ h
      · cases h), fun _ h => nomatch h⟩)) (n := 600) h)
set_option maxRecDepth 100000 in
theorem t_X10_afterLetters (a : Int32) (s : ga_M) (r : Int32) (h : f_X10_afterLetters a s = some r) : T_X10_afterLetters gaSH s gp_kI (0, [some (.ref 45), some (.int a), none], [], gaSH, s, 0, 0) r := (by
    rw [fe_X10_afterLetters] at h
    exact ga_T_go (sp := ga_sp [(2, 0, 0, fun L s => match L with
      | [some (.ref 45), _, some (.int l2)] => f_X10_afterLetters_h2 ga_fuel l2 s
      | _ => none)]) (ga_sp_T (List.forall_mem_cons.mpr ⟨fun L S s1 h => (by
      dsimp only at h
      split at h
      · exact t_X10_afterLetters_h2 s ga_fuel _ _ S s1 _ h
      · cases h), fun _ h => nomatch h⟩)) (n := 600) h)
abbrev T_X10_next {α : Type} (P : ga_S) (K0 : ga_O → Option α) (cfg : ga_C) (r : α) : Prop := ga_T RX10 cX10_next (ga_lk cl_X10_next) gaG gaCost (fun _ => []) gaCls 84 0 0 false true true none (fun S _ => S = P) K0 cfg r
set_option maxRecDepth 100000 in
theorem t_X10_next (s : ga_M) (r : ga_M) (h : f_X10_next s = some r) : T_X10_next gaSH ga_kV (0, [some (.ref 45), none], [], gaSH, s, 0, 0) r := (by
    rw [fe_X10_next] at h
    exact ga_T_go (sp := ga_sp []) (ga_sp_T (fun _ h => nomatch h)) (n := 600) h)
abbrev T_X10_begin {α : Type} (P : ga_S) (K0 : ga_O → Option α) (cfg : ga_C) (r : α) : Prop := ga_T RX10 cX10_begin (ga_lk cl_X10_begin) gaG gaCost (fun _ => []) gaCls 84 0 0 false true true none (fun S _ => S = P) K0 cfg r
set_option maxRecDepth 100000 in
theorem t_X10_begin (s : ga_M) (r : ga_M) (h : f_X10_begin s = some r) : T_X10_begin gaSH ga_kV (0, [some (.ref 45)], [], gaSH, s, 0, 0) r := (by
    rw [fe_X10_begin] at h
    exact ga_T_go (sp := ga_sp []) (ga_sp_T (fun _ h => nomatch h)) (n := 600) h)
abbrev T_X10_isWord {α : Type} (P : ga_S) (s0 : ga_M) (K0 : ga_O → Option α) (cfg : ga_C) (r : α) : Prop := ga_T RX10 cX10_isWord (ga_lk cl_X10_isWord) gaGP gaCost (fun _ => []) gaCls 84 0 0 false true false none (fun S σ => S = P ∧ σ = s0) K0 cfg r
set_option maxRecDepth 100000 in
theorem t_X10_isWord_h28 (s0 : ga_M) : ∀ (n : Nat) (l1 : Nat) (l2 : Int32) (S : ga_S) (s : ga_M) (r : Int32), f_X10_isWord_h28 n l1 l2 s = some r → T_X10_isWord gaSH s0 gp_kI (28, [some (.ref 45), some (.ref l1), some (.int l2)], [], S, s, 0, 0) r := by
  intro n
  induction n with
  | zero => intro l1 l2 S s r h; cases h
  | succ n ih => intro l1 l2 S s r h; exact ga_T_S fun hS => (by
    obtain ⟨rfl, rfl⟩ := hS
    exact ga_T_go (sp := ga_sp [(28, 0, 0, fun L s => match L with
      | [some (.ref 45), some (.ref l1), some (.int l2)] => f_X10_isWord_h28 n l1 l2 s
      | _ => none)]) (ga_sp_T (List.forall_mem_cons.mpr ⟨fun L S s1 h => (by
      dsimp only at h
      split at h
      · exact ih _ _  S s1 _ h
      · cases h), fun _ h => nomatch h⟩)) (n := 600) h)
set_option maxRecDepth 100000 in
theorem t_X10_isWord (a : Nat) (s : ga_M) (r : Int32) (h : f_X10_isWord a s = some r) : T_X10_isWord gaSH s gp_kI (0, [some (.ref 45), some (.ref a), none], [], gaSH, s, 0, 0) r := (by
    rw [fe_X10_isWord] at h
    exact ga_T_go (sp := ga_sp [(28, 0, 0, fun L s => match L with
      | [some (.ref 45), some (.ref l1), some (.int l2)] => f_X10_isWord_h28 ga_fuel l1 l2 s
      | _ => none)]) (ga_sp_T (List.forall_mem_cons.mpr ⟨fun L S s1 h => (by
      dsimp only at h
      split at h
      · exact t_X10_isWord_h28 s ga_fuel _ _  S s1 _ h
      · cases h), fun _ h => nomatch h⟩)) (n := 600) h)
abbrev T_X10_fail {α : Type} (P : ga_S) (K0 : ga_O → Option α) (cfg : ga_C) (r : α) : Prop := ga_T RX10 cX10_fail (ga_lk cl_X10_fail) gaG gaCost (fun _ => []) gaCls 84 0 0 false true true none (fun S _ => S = P) K0 cfg r
set_option maxRecDepth 100000 in
theorem t_X10_fail (a : Int32) (b : Int32) (s : ga_M) (r : Int32 × ga_M) (h : f_X10_fail a b s = some r) : T_X10_fail gaSH ga_kI (0, [some (.ref 45), some (.int a), some (.int b)], [], gaSH, s, 0, 0) r := (by
    rw [fe_X10_fail] at h
    exact ga_T_go (sp := ga_sp []) (ga_sp_T (fun _ h => nomatch h)) (n := 600) h)
abbrev T_X8_fail {α : Type} (P : ga_S) (K0 : ga_O → Option α) (cfg : ga_C) (r : α) : Prop := ga_T RX8 cX8_fail (ga_lk cl_X8_fail) gaG gaCost (fun _ => []) gaCls 84 0 0 false true true none (fun S _ => S = P) K0 cfg r
set_option maxRecDepth 100000 in
theorem t_X8_fail (a : Int32) (s : ga_M) (r : Int32 × ga_M) (h : f_X8_fail a s = some r) : T_X8_fail gaSH ga_kI (0, [some (.ref 48), some (.int a)], [], gaSH, s, 0, 0) r := (by
    rw [fe_X8_fail] at h
    exact ga_T_go (sp := ga_sp []) (ga_sp_T (fun _ h => nomatch h)) (n := 600) h)
abbrev T_X8_takeWord {α : Type} (P : ga_S) (K0 : ga_O → Option α) (cfg : ga_C) (r : α) : Prop := ga_T RX8 cX8_takeWord (ga_lk cl_X8_takeWord) gaG gaCost (fun _ => []) gaCls 84 0 0 false true true none (fun S _ => S = P) K0 cfg r
set_option maxRecDepth 100000 in
theorem t_X8_takeWord (a : Nat) (s : ga_M) (r : Int32 × ga_M) (h : f_X8_takeWord a s = some r) : T_X8_takeWord gaSH ga_kI (0, [some (.ref 48), some (.ref a)], [], gaSH, s, 0, 0) r := (by
    rw [fe_X8_takeWord] at h
    exact ga_T_go (sp := ga_sp []) (ga_sp_T (fun _ h => nomatch h)) (n := 600) h)
abbrev T_X8_checkNumber {α : Type} (P : ga_S) (K0 : ga_O → Option α) (cfg : ga_C) (r : α) : Prop := ga_T RX8 cX8_checkNumber (ga_lk cl_X8_checkNumber) gaG gaCost (fun _ => []) gaCls 84 0 0 false true true none (fun S _ => S = P) K0 cfg r
set_option maxRecDepth 100000 in
theorem t_X8_checkNumber (a : Int32) (b : Int32) (s : ga_M) (r : Int32 × ga_M) (h : f_X8_checkNumber a b s = some r) : T_X8_checkNumber gaSH ga_kI (0, [some (.ref 48), some (.int a), some (.int b)], [], gaSH, s, 0, 0) r := (by
    rw [fe_X8_checkNumber] at h
    exact ga_T_go (sp := ga_sp []) (ga_sp_T (fun _ h => nomatch h)) (n := 600) h)
abbrev T_X8_takeNumber {α : Type} (P : ga_S) (K0 : ga_O → Option α) (cfg : ga_C) (r : α) : Prop := ga_T RX8 cX8_takeNumber (ga_lk cl_X8_takeNumber) gaG gaCost (fun _ => []) gaCls 84 0 0 false true true none (fun S _ => S = P) K0 cfg r
set_option maxRecDepth 100000 in
theorem t_X8_takeNumber (s : ga_M) (r : Int32 × ga_M) (h : f_X8_takeNumber s = some r) : T_X8_takeNumber gaSH ga_kI (0, [some (.ref 48), none], [], gaSH, s, 0, 0) r := (by
    rw [fe_X8_takeNumber] at h
    exact ga_T_go (sp := ga_sp []) (ga_sp_T (fun _ h => nomatch h)) (n := 600) h)
abbrev T_X8_takeSemicolon {α : Type} (P : ga_S) (K0 : ga_O → Option α) (cfg : ga_C) (r : α) : Prop := ga_T RX8 cX8_takeSemicolon (ga_lk cl_X8_takeSemicolon) gaG gaCost (fun _ => []) gaCls 84 0 0 false true true none (fun S _ => S = P) K0 cfg r
set_option maxRecDepth 100000 in
theorem t_X8_takeSemicolon (s : ga_M) (r : Int32 × ga_M) (h : f_X8_takeSemicolon s = some r) : T_X8_takeSemicolon gaSH ga_kI (0, [some (.ref 48)], [], gaSH, s, 0, 0) r := (by
    rw [fe_X8_takeSemicolon] at h
    exact ga_T_go (sp := ga_sp []) (ga_sp_T (fun _ h => nomatch h)) (n := 600) h)
abbrev T_X8_readGrid {α : Type} (P : ga_S) (K0 : ga_O → Option α) (cfg : ga_C) (r : α) : Prop := ga_T RX8 cX8_readGrid (ga_lk cl_X8_readGrid) gaG gaCost (fun _ => []) gaCls 84 0 0 false true true none (fun S _ => S = P) K0 cfg r
set_option maxRecDepth 100000 in
theorem t_X8_readGrid (s : ga_M) (r : Int32 × ga_M) (h : f_X8_readGrid s = some r) : T_X8_readGrid gaSH ga_kI (0, [some (.ref 48)], [], gaSH, s, 0, 0) r := (by
    rw [fe_X8_readGrid] at h
    exact ga_T_go (sp := ga_sp []) (ga_sp_T (fun _ h => nomatch h)) (n := 600) h)
abbrev T_X7_addSubject {α : Type} (P : ga_S) (K0 : ga_O → Option α) (cfg : ga_C) (r : α) : Prop := ga_T RX7 cX7_addSubject (ga_lk cl_X7_addSubject) gaG gaCost (fun _ => []) gaCls 84 0 0 false true true none (fun S _ => S = P) K0 cfg r
set_option maxRecDepth 100000 in
theorem t_X7_addSubject_49 (a : Int32) (s : ga_M) (r : ga_M) (h : f_X7_addSubject_49 a s = some r) : T_X7_addSubject gaSH ga_kV (0, [some (.ref 49), some (.int a)], [], gaSH, s, 0, 0) r := (by
    rw [fe_X7_addSubject_49] at h
    exact ga_T_go (sp := ga_sp []) (ga_sp_T (fun _ h => nomatch h)) (n := 600) h)
abbrev T_X8_readSubjects {α : Type} (P : ga_S) (K0 : ga_O → Option α) (cfg : ga_C) (r : α) : Prop := ga_T RX8 cX8_readSubjects (ga_lk cl_X8_readSubjects) gaG gaCost (fun _ => []) gaCls 84 0 0 false true true none (fun S _ => S = P) K0 cfg r
set_option maxRecDepth 100000 in
theorem t_X8_readSubjects_h2 : ∀ (n : Nat) (l1 : Int32) (S : ga_S) (s : ga_M) (r : Int32 × ga_M), f_X8_readSubjects_h2 n l1 s = some r → T_X8_readSubjects gaSH ga_kI (2, [some (.ref 48), some (.int l1)], [], S, s, 0, 0) r := by
  intro n
  induction n with
  | zero => intro l1 S s r h; cases h
  | succ n ih => intro l1 S s r h; exact ga_T_S fun hS => (by
    cases hS
    exact ga_T_go (sp := ga_sp [(2, 0, 0, fun L s => match L with
      | [some (.ref 48), some (.int l1)] => f_X8_readSubjects_h2 n l1 s
      | _ => none)]) (ga_sp_T (List.forall_mem_cons.mpr ⟨fun L S s1 h => (by
      dsimp only at h
      split at h
      · exact ih _  S s1 _ h
      · cases h), fun _ h => nomatch h⟩)) (n := 600) h)
set_option maxRecDepth 100000 in
theorem t_X8_readSubjects (s : ga_M) (r : Int32 × ga_M) (h : f_X8_readSubjects s = some r) : T_X8_readSubjects gaSH ga_kI (0, [some (.ref 48), none], [], gaSH, s, 0, 0) r := (by
    rw [fe_X8_readSubjects] at h
    exact ga_T_go (sp := ga_sp [(2, 0, 0, fun L s => match L with
      | [some (.ref 48), some (.int l1)] => f_X8_readSubjects_h2 ga_fuel l1 s
      | _ => none)]) (ga_sp_T (List.forall_mem_cons.mpr ⟨fun L S s1 h => (by
      dsimp only at h
      split at h
      · exact t_X8_readSubjects_h2 ga_fuel _  S s1 _ h
      · cases h), fun _ h => nomatch h⟩)) (n := 600) h)
abbrev T_X7_addTeacher {α : Type} (P : ga_S) (K0 : ga_O → Option α) (cfg : ga_C) (r : α) : Prop := ga_T RX7 cX7_addTeacher (ga_lk cl_X7_addTeacher) gaG gaCost (fun _ => []) gaCls 84 0 0 false true true none (fun S _ => S = P) K0 cfg r
set_option maxRecDepth 100000 in
theorem t_X7_addTeacher_49 (a : Int32) (b : Int32) (s : ga_M) (r : ga_M) (h : f_X7_addTeacher_49 a b s = some r) : T_X7_addTeacher gaSH ga_kV (0, [some (.ref 49), some (.int a), some (.int b)], [], gaSH, s, 0, 0) r := (by
    rw [fe_X7_addTeacher_49] at h
    exact ga_T_go (sp := ga_sp []) (ga_sp_T (fun _ h => nomatch h)) (n := 600) h)
abbrev T_X11_hasBit {α : Type} (P : ga_S) (s0 : ga_M) (K0 : ga_O → Option α) (cfg : ga_C) (r : α) : Prop := ga_T RX11 cX11_hasBit (ga_lk cl_X11_hasBit) gaGP gaCost (fun _ => []) gaCls 84 0 0 false true false none (fun S σ => S = P ∧ σ = s0) K0 cfg r
set_option maxRecDepth 100000 in
theorem t_X11_hasBit (a : Int32) (b : Int32) (s : ga_M) (r : Int32) (h : f_X11_hasBit a b s = some r) : T_X11_hasBit gaSH s gp_kI (0, [some (.int a), some (.int b)], [], gaSH, s, 0, 0) r := (by
    rw [fe_X11_hasBit] at h
    exact ga_T_go (sp := ga_sp []) (ga_sp_T (fun _ h => nomatch h)) (n := 600) h)
abbrev T_X8_readTeacher {α : Type} (P : ga_S) (K0 : ga_O → Option α) (cfg : ga_C) (r : α) : Prop := ga_T RX8 cX8_readTeacher (ga_lk cl_X8_readTeacher) gaG gaCost (fun _ => []) gaCls 84 0 0 false true true none (fun S _ => S = P) K0 cfg r
set_option maxRecDepth 100000 in
theorem t_X8_readTeacher_h21 : ∀ (n : Nat) (l1 : Int32) (l2 : Int32) (l3 : Int32) (S : ga_S) (s : ga_M) (r : Int32 × ga_M), f_X8_readTeacher_h21 n l1 l2 l3 s = some r → T_X8_readTeacher gaSH ga_kI (21, [some (.ref 48), some (.int l1), some (.int l2), some (.int l3)], [], S, s, 0, 0) r := by
  intro n
  induction n with
  | zero => intro l1 l2 l3 S s r h; cases h
  | succ n ih => intro l1 l2 l3 S s r h; exact ga_T_S fun hS => (by
    cases hS
    exact ga_T_go (sp := ga_sp [(21, 0, 0, fun L s => match L with
      | [some (.ref 48), some (.int l1), some (.int l2), some (.int l3)] => f_X8_readTeacher_h21 n l1 l2 l3 s
      | _ => none)]) (ga_sp_T (List.forall_mem_cons.mpr ⟨fun L S s1 h => (by
      dsimp only at h
      split at h
      · exact ih _ _ _  S s1 _ h
      · cases h), fun _ h => nomatch h⟩)) (n := 600) h)
set_option maxRecDepth 100000 in
theorem t_X8_readTeacher (s : ga_M) (r : Int32 × ga_M) (h : f_X8_readTeacher s = some r) : T_X8_readTeacher gaSH ga_kI (0, [some (.ref 48), none, none, none], [], gaSH, s, 0, 0) r := (by
    rw [fe_X8_readTeacher] at h
    exact ga_T_go (sp := ga_sp [(21, 0, 0, fun L s => match L with
      | [some (.ref 48), some (.int l1), some (.int l2), some (.int l3)] => f_X8_readTeacher_h21 ga_fuel l1 l2 l3 s
      | _ => none)]) (ga_sp_T (List.forall_mem_cons.mpr ⟨fun L S s1 h => (by
      dsimp only at h
      split at h
      · exact t_X8_readTeacher_h21 ga_fuel _ _ _  S s1 _ h
      · cases h), fun _ h => nomatch h⟩)) (n := 600) h)
abbrev T_X8_readTeachers {α : Type} (P : ga_S) (K0 : ga_O → Option α) (cfg : ga_C) (r : α) : Prop := ga_T RX8 cX8_readTeachers (ga_lk cl_X8_readTeachers) gaG gaCost (fun _ => []) gaCls 84 0 0 false true true none (fun S _ => S = P) K0 cfg r
set_option maxRecDepth 100000 in
theorem t_X8_readTeachers_h2 : ∀ (n : Nat) (l1 : Int32) (S : ga_S) (s : ga_M) (r : Int32 × ga_M), f_X8_readTeachers_h2 n l1 s = some r → T_X8_readTeachers gaSH ga_kI (2, [some (.ref 48), some (.int l1)], [], S, s, 0, 0) r := by
  intro n
  induction n with
  | zero => intro l1 S s r h; cases h
  | succ n ih => intro l1 S s r h; exact ga_T_S fun hS => (by
    cases hS
    exact ga_T_go (sp := ga_sp [(2, 0, 0, fun L s => match L with
      | [some (.ref 48), some (.int l1)] => f_X8_readTeachers_h2 n l1 s
      | _ => none)]) (ga_sp_T (List.forall_mem_cons.mpr ⟨fun L S s1 h => (by
      dsimp only at h
      split at h
      · exact ih _  S s1 _ h
      · cases h), fun _ h => nomatch h⟩)) (n := 600) h)
set_option maxRecDepth 100000 in
theorem t_X8_readTeachers (s : ga_M) (r : Int32 × ga_M) (h : f_X8_readTeachers s = some r) : T_X8_readTeachers gaSH ga_kI (0, [some (.ref 48), none], [], gaSH, s, 0, 0) r := (by
    rw [fe_X8_readTeachers] at h
    exact ga_T_go (sp := ga_sp [(2, 0, 0, fun L s => match L with
      | [some (.ref 48), some (.int l1)] => f_X8_readTeachers_h2 ga_fuel l1 s
      | _ => none)]) (ga_sp_T (List.forall_mem_cons.mpr ⟨fun L S s1 h => (by
      dsimp only at h
      split at h
      · exact t_X8_readTeachers_h2 ga_fuel _  S s1 _ h
      · cases h), fun _ h => nomatch h⟩)) (n := 600) h)
abbrev T_X7_addRoom {α : Type} (P : ga_S) (K0 : ga_O → Option α) (cfg : ga_C) (r : α) : Prop := ga_T RX7 cX7_addRoom (ga_lk cl_X7_addRoom) gaG gaCost (fun _ => []) gaCls 84 0 0 false true true none (fun S _ => S = P) K0 cfg r
set_option maxRecDepth 100000 in
theorem t_X7_addRoom_49 (a : Int32) (s : ga_M) (r : ga_M) (h : f_X7_addRoom_49 a s = some r) : T_X7_addRoom gaSH ga_kV (0, [some (.ref 49), some (.int a)], [], gaSH, s, 0, 0) r := (by
    rw [fe_X7_addRoom_49] at h
    exact ga_T_go (sp := ga_sp []) (ga_sp_T (fun _ h => nomatch h)) (n := 600) h)
abbrev T_X8_readRooms {α : Type} (P : ga_S) (K0 : ga_O → Option α) (cfg : ga_C) (r : α) : Prop := ga_T RX8 cX8_readRooms (ga_lk cl_X8_readRooms) gaG gaCost (fun _ => []) gaCls 84 0 0 false true true none (fun S _ => S = P) K0 cfg r
set_option maxRecDepth 100000 in
theorem t_X8_readRooms_h2 : ∀ (n : Nat) (l1 : Int32) (S : ga_S) (s : ga_M) (r : Int32 × ga_M), f_X8_readRooms_h2 n l1 s = some r → T_X8_readRooms gaSH ga_kI (2, [some (.ref 48), some (.int l1)], [], S, s, 0, 0) r := by
  intro n
  induction n with
  | zero => intro l1 S s r h; cases h
  | succ n ih => intro l1 S s r h; exact ga_T_S fun hS => (by
    cases hS
    exact ga_T_go (sp := ga_sp [(2, 0, 0, fun L s => match L with
      | [some (.ref 48), some (.int l1)] => f_X8_readRooms_h2 n l1 s
      | _ => none)]) (ga_sp_T (List.forall_mem_cons.mpr ⟨fun L S s1 h => (by
      dsimp only at h
      split at h
      · exact ih _  S s1 _ h
      · cases h), fun _ h => nomatch h⟩)) (n := 600) h)
set_option maxRecDepth 100000 in
theorem t_X8_readRooms (s : ga_M) (r : Int32 × ga_M) (h : f_X8_readRooms s = some r) : T_X8_readRooms gaSH ga_kI (0, [some (.ref 48), none], [], gaSH, s, 0, 0) r := (by
    rw [fe_X8_readRooms] at h
    exact ga_T_go (sp := ga_sp [(2, 0, 0, fun L s => match L with
      | [some (.ref 48), some (.int l1)] => f_X8_readRooms_h2 ga_fuel l1 s
      | _ => none)]) (ga_sp_T (List.forall_mem_cons.mpr ⟨fun L S s1 h => (by
      dsimp only at h
      split at h
      · exact t_X8_readRooms_h2 ga_fuel _  S s1 _ h
      · cases h), fun _ h => nomatch h⟩)) (n := 600) h)
abbrev T_X8_readClasses {α : Type} (P : ga_S) (K0 : ga_O → Option α) (cfg : ga_C) (r : α) : Prop := ga_T RX8 cX8_readClasses (ga_lk cl_X8_readClasses) gaG gaCost (fun _ => []) gaCls 84 0 0 false true true none (fun S _ => S = P) K0 cfg r
set_option maxRecDepth 100000 in
theorem t_X8_readClasses (s : ga_M) (r : Int32 × ga_M) (h : f_X8_readClasses s = some r) : T_X8_readClasses gaSH ga_kI (0, [some (.ref 48)], [], gaSH, s, 0, 0) r := (by
    rw [fe_X8_readClasses] at h
    exact ga_T_go (sp := ga_sp []) (ga_sp_T (fun _ h => nomatch h)) (n := 600) h)
abbrev T_X7_slots {α : Type} (P : ga_S) (s0 : ga_M) (K0 : ga_O → Option α) (cfg : ga_C) (r : α) : Prop := ga_T RX7 cX7_slots (ga_lk cl_X7_slots) gaGP gaCost (fun _ => []) gaCls 84 0 0 false true false none (fun S σ => S = P ∧ σ = s0) K0 cfg r
set_option maxRecDepth 100000 in
theorem t_X7_slots_49 (s : ga_M) (r : Int32) (h : f_X7_slots_49 s = some r) : T_X7_slots gaSH s gp_kI (0, [some (.ref 49)], [], gaSH, s, 0, 0) r := (by
    rw [fe_X7_slots_49] at h
    exact ga_T_go (sp := ga_sp []) (ga_sp_T (fun _ h => nomatch h)) (n := 600) h)
abbrev T_X7_isTakenAtFirst {α : Type} (P : ga_S) (s0 : ga_M) (K0 : ga_O → Option α) (cfg : ga_C) (r : α) : Prop := ga_T RX7 cX7_isTakenAtFirst (ga_lk cl_X7_isTakenAtFirst) gaGP gaCost (fun _ => []) gaCls 84 0 0 false true false none (fun S σ => S = P ∧ σ = s0) K0 cfg r
set_option maxRecDepth 100000 in
theorem t_X7_isTakenAtFirst_49_58_h3 (s0 : ga_M) : ∀ (n : Nat) (l1 : Int32) (l3 : Int32) (l4 : Int32) (S : ga_S) (s : ga_M) (r : Int32), f_X7_isTakenAtFirst_49_58_h3 n l1 l3 l4 s = some r → T_X7_isTakenAtFirst gaSH s0 gp_kI (3, [some (.ref 49), some (.int l1), some (.ref 58), some (.int l3), some (.int l4)], [], S, s, 0, 0) r := by
  intro n
  induction n with
  | zero => intro l1 l3 l4 S s r h; cases h
  | succ n ih => intro l1 l3 l4 S s r h; exact ga_T_S fun hS => (by
    obtain ⟨rfl, rfl⟩ := hS
    exact ga_T_go (sp := ga_sp [(3, 0, 0, fun L s => match L with
      | [some (.ref 49), some (.int l1), some (.ref 58), some (.int l3), some (.int l4)] => f_X7_isTakenAtFirst_49_58_h3 n l1 l3 l4 s
      | _ => none)]) (ga_sp_T (List.forall_mem_cons.mpr ⟨fun L S s1 h => (by
      dsimp only at h
      split at h
      · exact ih _ _ _  S s1 _ h
      · cases h), fun _ h => nomatch h⟩)) (n := 600) h)
set_option maxRecDepth 100000 in
theorem t_X7_isTakenAtFirst_49_58 (a : Int32) (b : Int32) (s : ga_M) (r : Int32) (h : f_X7_isTakenAtFirst_49_58 a b s = some r) : T_X7_isTakenAtFirst gaSH s gp_kI (0, [some (.ref 49), some (.int a), some (.ref 58), some (.int b), none], [], gaSH, s, 0, 0) r := (by
    rw [fe_X7_isTakenAtFirst_49_58] at h
    exact ga_T_go (sp := ga_sp [(3, 0, 0, fun L s => match L with
      | [some (.ref 49), some (.int l1), some (.ref 58), some (.int l3), some (.int l4)] => f_X7_isTakenAtFirst_49_58_h3 ga_fuel l1 l3 l4 s
      | _ => none)]) (ga_sp_T (List.forall_mem_cons.mpr ⟨fun L S s1 h => (by
      dsimp only at h
      split at h
      · exact t_X7_isTakenAtFirst_49_58_h3 s ga_fuel _ _ _  S s1 _ h
      · cases h), fun _ h => nomatch h⟩)) (n := 600) h)
abbrev T_X8_checkUntaken {α : Type} (P : ga_S) (K0 : ga_O → Option α) (cfg : ga_C) (r : α) : Prop := ga_T RX8 cX8_checkUntaken (ga_lk cl_X8_checkUntaken) gaG gaCost (fun _ => []) gaCls 84 0 0 false true true none (fun S _ => S = P) K0 cfg r
set_option maxRecDepth 100000 in
theorem t_X8_checkUntaken_58 (a : Int32) (b : Int32) (s : ga_M) (r : Int32 × ga_M) (h : f_X8_checkUntaken_58 a b s = some r) : T_X8_checkUntaken gaSH ga_kI (0, [some (.ref 48), some (.int a), some (.ref 58), some (.int b)], [], gaSH, s, 0, 0) r := (by
    rw [fe_X8_checkUntaken_58] at h
    exact ga_T_go (sp := ga_sp []) (ga_sp_T (fun _ h => nomatch h)) (n := 600) h)
set_option maxRecDepth 100000 in
theorem t_X7_isTakenAtFirst_49_64_h3 (s0 : ga_M) : ∀ (n : Nat) (l1 : Int32) (l3 : Int32) (l4 : Int32) (S : ga_S) (s : ga_M) (r : Int32), f_X7_isTakenAtFirst_49_64_h3 n l1 l3 l4 s = some r → T_X7_isTakenAtFirst gaSH s0 gp_kI (3, [some (.ref 49), some (.int l1), some (.ref 64), some (.int l3), some (.int l4)], [], S, s, 0, 0) r := by
  intro n
  induction n with
  | zero => intro l1 l3 l4 S s r h; cases h
  | succ n ih => intro l1 l3 l4 S s r h; exact ga_T_S fun hS => (by
    obtain ⟨rfl, rfl⟩ := hS
    exact ga_T_go (sp := ga_sp [(3, 0, 0, fun L s => match L with
      | [some (.ref 49), some (.int l1), some (.ref 64), some (.int l3), some (.int l4)] => f_X7_isTakenAtFirst_49_64_h3 n l1 l3 l4 s
      | _ => none)]) (ga_sp_T (List.forall_mem_cons.mpr ⟨fun L S s1 h => (by
      dsimp only at h
      split at h
      · exact ih _ _ _  S s1 _ h
      · cases h), fun _ h => nomatch h⟩)) (n := 600) h)
set_option maxRecDepth 100000 in
theorem t_X7_isTakenAtFirst_49_64 (a : Int32) (b : Int32) (s : ga_M) (r : Int32) (h : f_X7_isTakenAtFirst_49_64 a b s = some r) : T_X7_isTakenAtFirst gaSH s gp_kI (0, [some (.ref 49), some (.int a), some (.ref 64), some (.int b), none], [], gaSH, s, 0, 0) r := (by
    rw [fe_X7_isTakenAtFirst_49_64] at h
    exact ga_T_go (sp := ga_sp [(3, 0, 0, fun L s => match L with
      | [some (.ref 49), some (.int l1), some (.ref 64), some (.int l3), some (.int l4)] => f_X7_isTakenAtFirst_49_64_h3 ga_fuel l1 l3 l4 s
      | _ => none)]) (ga_sp_T (List.forall_mem_cons.mpr ⟨fun L S s1 h => (by
      dsimp only at h
      split at h
      · exact t_X7_isTakenAtFirst_49_64_h3 s ga_fuel _ _ _  S s1 _ h
      · cases h), fun _ h => nomatch h⟩)) (n := 600) h)
set_option maxRecDepth 100000 in
theorem t_X8_checkUntaken_64 (a : Int32) (b : Int32) (s : ga_M) (r : Int32 × ga_M) (h : f_X8_checkUntaken_64 a b s = some r) : T_X8_checkUntaken gaSH ga_kI (0, [some (.ref 48), some (.int a), some (.ref 64), some (.int b)], [], gaSH, s, 0, 0) r := (by
    rw [fe_X8_checkUntaken_64] at h
    exact ga_T_go (sp := ga_sp []) (ga_sp_T (fun _ h => nomatch h)) (n := 600) h)
abbrev T_X7_hasTeacher {α : Type} (P : ga_S) (s0 : ga_M) (K0 : ga_O → Option α) (cfg : ga_C) (r : α) : Prop := ga_T RX7 cX7_hasTeacher (ga_lk cl_X7_hasTeacher) gaGP gaCost (fun _ => []) gaCls 84 0 0 false true false none (fun S σ => S = P ∧ σ = s0) K0 cfg r
set_option maxRecDepth 100000 in
theorem t_X7_hasTeacher_49 (a : Int32) (s : ga_M) (r : Int32) (h : f_X7_hasTeacher_49 a s = some r) : T_X7_hasTeacher gaSH s gp_kI (0, [some (.ref 49), some (.int a)], [], gaSH, s, 0, 0) r := (by
    rw [fe_X7_hasTeacher_49] at h
    exact ga_T_go (sp := ga_sp []) (ga_sp_T (fun _ h => nomatch h)) (n := 600) h)
abbrev T_X7_isQualified {α : Type} (P : ga_S) (s0 : ga_M) (K0 : ga_O → Option α) (cfg : ga_C) (r : α) : Prop := ga_T RX7 cX7_isQualified (ga_lk cl_X7_isQualified) gaGP gaCost (fun _ => []) gaCls 84 0 0 false true false none (fun S σ => S = P ∧ σ = s0) K0 cfg r
set_option maxRecDepth 100000 in
theorem t_X7_isQualified_49 (a : Int32) (b : Int32) (s : ga_M) (r : Int32) (h : f_X7_isQualified_49 a b s = some r) : T_X7_isQualified gaSH s gp_kI (0, [some (.ref 49), some (.int a), some (.int b)], [], gaSH, s, 0, 0) r := (by
    rw [fe_X7_isQualified_49] at h
    exact ga_T_go (sp := ga_sp []) (ga_sp_T (fun _ h => nomatch h)) (n := 600) h)
set_option maxRecDepth 100000 in
theorem t_X7_isTakenAtFirst_49_66_h3 (s0 : ga_M) : ∀ (n : Nat) (l1 : Int32) (l3 : Int32) (l4 : Int32) (S : ga_S) (s : ga_M) (r : Int32), f_X7_isTakenAtFirst_49_66_h3 n l1 l3 l4 s = some r → T_X7_isTakenAtFirst gaSH s0 gp_kI (3, [some (.ref 49), some (.int l1), some (.ref 66), some (.int l3), some (.int l4)], [], S, s, 0, 0) r := by
  intro n
  induction n with
  | zero => intro l1 l3 l4 S s r h; cases h
  | succ n ih => intro l1 l3 l4 S s r h; exact ga_T_S fun hS => (by
    obtain ⟨rfl, rfl⟩ := hS
    exact ga_T_go (sp := ga_sp [(3, 0, 0, fun L s => match L with
      | [some (.ref 49), some (.int l1), some (.ref 66), some (.int l3), some (.int l4)] => f_X7_isTakenAtFirst_49_66_h3 n l1 l3 l4 s
      | _ => none)]) (ga_sp_T (List.forall_mem_cons.mpr ⟨fun L S s1 h => (by
      dsimp only at h
      split at h
      · exact ih _ _ _  S s1 _ h
      · cases h), fun _ h => nomatch h⟩)) (n := 600) h)
set_option maxRecDepth 100000 in
theorem t_X7_isTakenAtFirst_49_66 (a : Int32) (b : Int32) (s : ga_M) (r : Int32) (h : f_X7_isTakenAtFirst_49_66 a b s = some r) : T_X7_isTakenAtFirst gaSH s gp_kI (0, [some (.ref 49), some (.int a), some (.ref 66), some (.int b), none], [], gaSH, s, 0, 0) r := (by
    rw [fe_X7_isTakenAtFirst_49_66] at h
    exact ga_T_go (sp := ga_sp [(3, 0, 0, fun L s => match L with
      | [some (.ref 49), some (.int l1), some (.ref 66), some (.int l3), some (.int l4)] => f_X7_isTakenAtFirst_49_66_h3 ga_fuel l1 l3 l4 s
      | _ => none)]) (ga_sp_T (List.forall_mem_cons.mpr ⟨fun L S s1 h => (by
      dsimp only at h
      split at h
      · exact t_X7_isTakenAtFirst_49_66_h3 s ga_fuel _ _ _  S s1 _ h
      · cases h), fun _ h => nomatch h⟩)) (n := 600) h)
set_option maxRecDepth 100000 in
theorem t_X8_checkUntaken_66 (a : Int32) (b : Int32) (s : ga_M) (r : Int32 × ga_M) (h : f_X8_checkUntaken_66 a b s = some r) : T_X8_checkUntaken gaSH ga_kI (0, [some (.ref 48), some (.int a), some (.ref 66), some (.int b)], [], gaSH, s, 0, 0) r := (by
    rw [fe_X8_checkUntaken_66] at h
    exact ga_T_go (sp := ga_sp []) (ga_sp_T (fun _ h => nomatch h)) (n := 600) h)
abbrev T_X7_addLesson {α : Type} (P : ga_S) (K0 : ga_O → Option α) (cfg : ga_C) (r : α) : Prop := ga_T RX7 cX7_addLesson (ga_lk cl_X7_addLesson) gaG gaCost (fun _ => []) gaCls 84 0 0 false true true none (fun S _ => S = P) K0 cfg r
set_option maxRecDepth 100000 in
theorem t_X7_addLesson_49 (a : Int32) (b : Int32) (c : Int32) (d : Int32) (e : Int32) (s : ga_M) (r : ga_M) (h : f_X7_addLesson_49 a b c d e s = some r) : T_X7_addLesson gaSH ga_kV (0, [some (.ref 49), some (.int a), some (.int b), some (.int c), some (.int d), some (.int e)], [], gaSH, s, 0, 0) r := (by
    rw [fe_X7_addLesson_49] at h
    exact ga_T_go (sp := ga_sp []) (ga_sp_T (fun _ h => nomatch h)) (n := 600) h)
