abbrev T_X12_copyRow {α : Type} (P : ga_S) (K0 : ga_O → Option α) (cfg : ga_C) (r : α) : Prop := ga_T RX12 cX12_copyRow (ga_lk cl_X12_copyRow) gaG gaCost (fun _ => []) gaCls 83 0 0 false true true none (fun S _ => S = P) K0 cfg r
set_option maxRecDepth 100000 in
theorem t_X12_copyRow_75_76_h2 : ∀ (n : Nat) (l2 : Int32) (S : ga_S) (s : ga_M) (r : ga_M), f_X12_copyRow_75_76_h2 n l2 s = some r → T_X12_copyRow gaSH ga_kV (2, [some (.ref 75), some (.ref 76), some (.int l2)], [], S, s, 0, 0) r := by
  intro n
  induction n with
  | zero => intro l2 S s r h; cases h
  | succ n ih => intro l2 S s r h; exact ga_T_S fun hS => (by
    cases hS
    exact ga_T_go (sp := ga_sp [(2, 0, 0, fun L s => match L with
      | [some (.ref 75), some (.ref 76), some (.int l2)] => f_X12_copyRow_75_76_h2 n l2 s
      | _ => none)]) (ga_sp_T (List.forall_mem_cons.mpr ⟨fun L S s1 h => (by
      dsimp only at h
      split at h
      · exact ih _  S s1 _ h
      · cases h), fun _ h => nomatch h⟩)) (n := 600) h)
set_option maxRecDepth 100000 in
theorem t_X12_copyRow_75_76 (s : ga_M) (r : ga_M) (h : f_X12_copyRow_75_76 s = some r) : T_X12_copyRow gaSH ga_kV (0, [some (.ref 75), some (.ref 76), none], [], gaSH, s, 0, 0) r := (by
    rw [fe_X12_copyRow_75_76] at h
    exact ga_T_go (sp := ga_sp [(2, 0, 0, fun L s => match L with
      | [some (.ref 75), some (.ref 76), some (.int l2)] => f_X12_copyRow_75_76_h2 ga_fuel l2 s
      | _ => none)]) (ga_sp_T (List.forall_mem_cons.mpr ⟨fun L S s1 h => (by
      dsimp only at h
      split at h
      · exact t_X12_copyRow_75_76_h2 ga_fuel _  S s1 _ h
      · cases h), fun _ h => nomatch h⟩)) (n := 600) h)
abbrev T_X12_push {α : Type} (P : ga_S) (K0 : ga_O → Option α) (cfg : ga_C) (r : α) : Prop := ga_T RX12 cX12_push (ga_lk cl_X12_push) gaG gaCost (fun _ => []) gaCls 83 0 0 false true true none (fun S _ => S = P) K0 cfg r
set_option maxRecDepth 100000 in
theorem t_X12_push_h54 : ∀ (n : Nat) (l1 : Int32) (S : ga_S) (s : ga_M) (r : ga_M), f_X12_push_h54 n l1 s = some r → T_X12_push gaSH ga_kV (54, [some (.ref 72), some (.int l1)], [], S, s, 0, 0) r := by
  intro n
  induction n with
  | zero => intro l1 S s r h; cases h
  | succ n ih => intro l1 S s r h; exact ga_T_S fun hS => (by
    cases hS
    exact ga_T_go (sp := ga_sp [(54, 0, 0, fun L s => match L with
      | [some (.ref 72), some (.int l1)] => f_X12_push_h54 n l1 s
      | _ => none)]) (ga_sp_T (List.forall_mem_cons.mpr ⟨fun L S s1 h => (by
      dsimp only at h
      split at h
      · exact ih _  S s1 _ h
      · cases h), fun _ h => nomatch h⟩)) (n := 600) h)
set_option maxRecDepth 100000 in
theorem t_X12_push_h13 : ∀ (n : Nat) (l1 : Int32) (S : ga_S) (s : ga_M) (r : ga_M), f_X12_push_h13 n l1 s = some r → T_X12_push gaSH ga_kV (13, [some (.ref 72), some (.int l1)], [], S, s, 0, 0) r := by
  intro n
  induction n with
  | zero => intro l1 S s r h; cases h
  | succ n ih => intro l1 S s r h; exact ga_T_S fun hS => (by
    cases hS
    exact ga_T_go (sp := ga_sp [(54, 0, 0, fun L s => match L with
      | [some (.ref 72), some (.int l1)] => f_X12_push_h54 ga_fuel l1 s
      | _ => none), (13, 0, 0, fun L s => match L with
      | [some (.ref 72), some (.int l1)] => f_X12_push_h13 n l1 s
      | _ => none)]) (ga_sp_T (List.forall_mem_cons.mpr ⟨fun L S s1 h => (by
      dsimp only at h
      split at h
      · exact t_X12_push_h54 ga_fuel _  S s1 _ h
      · cases h), List.forall_mem_cons.mpr ⟨fun L S s1 h => (by
      dsimp only at h
      split at h
      · exact ih _  S s1 _ h
      · cases h), fun _ h => nomatch h⟩⟩)) (n := 600) h)
set_option maxRecDepth 100000 in
theorem t_X12_push (s : ga_M) (r : ga_M) (h : f_X12_push s = some r) : T_X12_push gaSH ga_kV (0, [some (.ref 72), none], [], gaSH, s, 0, 0) r := (by
    rw [fe_X12_push] at h
    exact ga_T_go (sp := ga_sp [(13, 0, 0, fun L s => match L with
      | [some (.ref 72), some (.int l1)] => f_X12_push_h13 ga_fuel l1 s
      | _ => none), (54, 0, 0, fun L s => match L with
      | [some (.ref 72), some (.int l1)] => f_X12_push_h54 ga_fuel l1 s
      | _ => none)]) (ga_sp_T (List.forall_mem_cons.mpr ⟨fun L S s1 h => (by
      dsimp only at h
      split at h
      · exact t_X12_push_h13 ga_fuel _  S s1 _ h
      · cases h), List.forall_mem_cons.mpr ⟨fun L S s1 h => (by
      dsimp only at h
      split at h
      · exact t_X12_push_h54 ga_fuel _  S s1 _ h
      · cases h), fun _ h => nomatch h⟩⟩)) (n := 600) h)
set_option maxRecDepth 100000 in
theorem t_X12_copyRow_76_75_h2 : ∀ (n : Nat) (l2 : Int32) (S : ga_S) (s : ga_M) (r : ga_M), f_X12_copyRow_76_75_h2 n l2 s = some r → T_X12_copyRow gaSH ga_kV (2, [some (.ref 76), some (.ref 75), some (.int l2)], [], S, s, 0, 0) r := by
  intro n
  induction n with
  | zero => intro l2 S s r h; cases h
  | succ n ih => intro l2 S s r h; exact ga_T_S fun hS => (by
    cases hS
    exact ga_T_go (sp := ga_sp [(2, 0, 0, fun L s => match L with
      | [some (.ref 76), some (.ref 75), some (.int l2)] => f_X12_copyRow_76_75_h2 n l2 s
      | _ => none)]) (ga_sp_T (List.forall_mem_cons.mpr ⟨fun L S s1 h => (by
      dsimp only at h
      split at h
      · exact ih _  S s1 _ h
      · cases h), fun _ h => nomatch h⟩)) (n := 600) h)
set_option maxRecDepth 100000 in
theorem t_X12_copyRow_76_75 (s : ga_M) (r : ga_M) (h : f_X12_copyRow_76_75 s = some r) : T_X12_copyRow gaSH ga_kV (0, [some (.ref 76), some (.ref 75), none], [], gaSH, s, 0, 0) r := (by
    rw [fe_X12_copyRow_76_75] at h
    exact ga_T_go (sp := ga_sp [(2, 0, 0, fun L s => match L with
      | [some (.ref 76), some (.ref 75), some (.int l2)] => f_X12_copyRow_76_75_h2 ga_fuel l2 s
      | _ => none)]) (ga_sp_T (List.forall_mem_cons.mpr ⟨fun L S s1 h => (by
      dsimp only at h
      split at h
      · exact t_X12_copyRow_76_75_h2 ga_fuel _  S s1 _ h
      · cases h), fun _ h => nomatch h⟩)) (n := 600) h)
abbrev T_X12_stepHere {α : Type} (P : ga_S) (s0 : ga_M) (K0 : ga_O → Option α) (cfg : ga_C) (r : α) : Prop := ga_T RX12 cX12_stepHere (ga_lk cl_X12_stepHere) gaGP gaCost (fun _ => []) gaCls 83 0 0 false true false none (fun S σ => S = P ∧ σ = s0) K0 cfg r
set_option maxRecDepth 100000 in
theorem t_X12_stepHere (s : ga_M) (r : Int32) (h : f_X12_stepHere s = some r) : T_X12_stepHere gaSH s gp_kI (0, [some (.ref 72)], [], gaSH, s, 0, 0) r := (by
    rw [fe_X12_stepHere] at h
    exact ga_T_go (sp := ga_sp []) (ga_sp_T (fun _ h => nomatch h)) (n := 600) h)
abbrev T_X12_figure {α : Type} (P : ga_S) (K0 : ga_O → Option α) (cfg : ga_C) (r : α) : Prop := ga_T RX12 cX12_figure (ga_lk cl_X12_figure) gaG gaCost (fun _ => []) gaCls 83 0 0 false true true none (fun S _ => S = P) K0 cfg r
set_option maxRecDepth 100000 in
theorem t_X12_figure (s : ga_M) (r : Int32 × ga_M) (h : f_X12_figure s = some r) : T_X12_figure gaSH ga_kI (0, [some (.ref 72), none], [], gaSH, s, 0, 0) r := (by
    rw [fe_X12_figure] at h
    exact ga_T_go (sp := ga_sp []) (ga_sp_T (fun _ h => nomatch h)) (n := 600) h)
abbrev T_X12_isLesson {α : Type} (P : ga_S) (s0 : ga_M) (K0 : ga_O → Option α) (cfg : ga_C) (r : α) : Prop := ga_T RX12 cX12_isLesson (ga_lk cl_X12_isLesson) gaGP gaCost (fun _ => []) gaCls 83 0 0 false true false none (fun S σ => S = P ∧ σ = s0) K0 cfg r
set_option maxRecDepth 100000 in
theorem t_X12_isLesson (a : Int32) (s : ga_M) (r : Int32) (h : f_X12_isLesson a s = some r) : T_X12_isLesson gaSH s gp_kI (0, [some (.ref 72), some (.int a)], [], gaSH, s, 0, 0) r := (by
    rw [fe_X12_isLesson] at h
    exact ga_T_go (sp := ga_sp []) (ga_sp_T (fun _ h => nomatch h)) (n := 600) h)
abbrev T_X12_isOpen {α : Type} (P : ga_S) (s0 : ga_M) (K0 : ga_O → Option α) (cfg : ga_C) (r : α) : Prop := ga_T RX12 cX12_isOpen (ga_lk cl_X12_isOpen) gaGP gaCost (fun _ => []) gaCls 83 0 0 false true false none (fun S σ => S = P ∧ σ = s0) K0 cfg r
set_option maxRecDepth 100000 in
theorem t_X12_isOpen (a : Int32) (s : ga_M) (r : Int32) (h : f_X12_isOpen a s = some r) : T_X12_isOpen gaSH s gp_kI (0, [some (.ref 72), some (.int a)], [], gaSH, s, 0, 0) r := (by
    rw [fe_X12_isOpen] at h
    exact ga_T_go (sp := ga_sp []) (ga_sp_T (fun _ h => nomatch h)) (n := 600) h)
abbrev T_X12_isRoom {α : Type} (P : ga_S) (s0 : ga_M) (K0 : ga_O → Option α) (cfg : ga_C) (r : α) : Prop := ga_T RX12 cX12_isRoom (ga_lk cl_X12_isRoom) gaGP gaCost (fun _ => []) gaCls 83 0 0 false true false none (fun S σ => S = P ∧ σ = s0) K0 cfg r
set_option maxRecDepth 100000 in
theorem t_X12_isRoom (a : Int32) (s : ga_M) (r : Int32) (h : f_X12_isRoom a s = some r) : T_X12_isRoom gaSH s gp_kI (0, [some (.ref 72), some (.int a)], [], gaSH, s, 0, 0) r := (by
    rw [fe_X12_isRoom] at h
    exact ga_T_go (sp := ga_sp []) (ga_sp_T (fun _ h => nomatch h)) (n := 600) h)
abbrev T_X12_lessonWith {α : Type} (P : ga_S) (s0 : ga_M) (K0 : ga_O → Option α) (cfg : ga_C) (r : α) : Prop := ga_T RX12 cX12_lessonWith (ga_lk cl_X12_lessonWith) gaGP gaCost (fun _ => []) gaCls 83 0 0 false true false none (fun S σ => S = P ∧ σ = s0) K0 cfg r
set_option maxRecDepth 100000 in
theorem t_X12_lessonWith_h3 (s0 : ga_M) : ∀ (n : Nat) (l1 : Int32) (l2 : Int32) (l3 : Int32) (l4 : Int32) (l5 : Int32) (l6 : Int32) (S : ga_S) (s : ga_M) (r : Int32), f_X12_lessonWith_h3 n l1 l2 l3 l4 l5 l6 s = some r → T_X12_lessonWith gaSH s0 gp_kI (3, [some (.ref 72), some (.int l1), some (.int l2), some (.int l3), some (.int l4), some (.int l5), some (.int l6)], [], S, s, 0, 0) r := by
  intro n
  induction n with
  | zero => intro l1 l2 l3 l4 l5 l6 S s r h; cases h
  | succ n ih => intro l1 l2 l3 l4 l5 l6 S s r h; exact ga_T_S fun hS => (by
    obtain ⟨rfl, rfl⟩ := hS
    exact ga_T_go (sp := ga_sp [(3, 0, 0, fun L s => match L with
      | [some (.ref 72), some (.int l1), some (.int l2), some (.int l3), some (.int l4), some (.int l5), some (.int l6)] => f_X12_lessonWith_h3 n l1 l2 l3 l4 l5 l6 s
      | _ => none)]) (ga_sp_T (List.forall_mem_cons.mpr ⟨fun L S s1 h => (by
      dsimp only at h
      split at h
      · exact ih _ _ _ _ _ _  S s1 _ h
      · cases h), fun _ h => nomatch h⟩)) (n := 600) h)
set_option maxRecDepth 100000 in
theorem t_X12_lessonWith (a : Int32) (b : Int32) (c : Int32) (d : Int32) (e : Int32) (s : ga_M) (r : Int32) (h : f_X12_lessonWith a b c d e s = some r) : T_X12_lessonWith gaSH s gp_kI (0, [some (.ref 72), some (.int a), some (.int b), some (.int c), some (.int d), some (.int e), none], [], gaSH, s, 0, 0) r := (by
    rw [fe_X12_lessonWith] at h
    exact ga_T_go (sp := ga_sp [(3, 0, 0, fun L s => match L with
      | [some (.ref 72), some (.int l1), some (.int l2), some (.int l3), some (.int l4), some (.int l5), some (.int l6)] => f_X12_lessonWith_h3 ga_fuel l1 l2 l3 l4 l5 l6 s
      | _ => none)]) (ga_sp_T (List.forall_mem_cons.mpr ⟨fun L S s1 h => (by
      dsimp only at h
      split at h
      · exact t_X12_lessonWith_h3 s ga_fuel _ _ _ _ _ _  S s1 _ h
      · cases h), fun _ h => nomatch h⟩)) (n := 600) h)
abbrev T_X12_reasonForRoom {α : Type} (P : ga_S) (s0 : ga_M) (K0 : ga_O → Option α) (cfg : ga_C) (r : α) : Prop := ga_T RX12 cX12_reasonForRoom (ga_lk cl_X12_reasonForRoom) gaGP gaCost (fun _ => []) gaCls 83 0 0 false true false none (fun S σ => S = P ∧ σ = s0) K0 cfg r
set_option maxRecDepth 100000 in
theorem t_X12_reasonForRoom (a : Int32) (b : Int32) (s : ga_M) (r : Int32) (h : f_X12_reasonForRoom a b s = some r) : T_X12_reasonForRoom gaSH s gp_kI (0, [some (.ref 72), some (.int a), some (.int b)], [], gaSH, s, 0, 0) r := (by
    rw [fe_X12_reasonForRoom] at h
    exact ga_T_go (sp := ga_sp []) (ga_sp_T (fun _ h => nomatch h)) (n := 600) h)
abbrev T_X12_slots {α : Type} (P : ga_S) (s0 : ga_M) (K0 : ga_O → Option α) (cfg : ga_C) (r : α) : Prop := ga_T RX12 cX12_slots (ga_lk cl_X12_slots) gaGP gaCost (fun _ => []) gaCls 83 0 0 false true false none (fun S σ => S = P ∧ σ = s0) K0 cfg r
set_option maxRecDepth 100000 in
theorem t_X12_slots (s : ga_M) (r : Int32) (h : f_X12_slots s = some r) : T_X12_slots gaSH s gp_kI (0, [some (.ref 72)], [], gaSH, s, 0, 0) r := (by
    rw [fe_X12_slots] at h
    exact ga_T_go (sp := ga_sp []) (ga_sp_T (fun _ h => nomatch h)) (n := 600) h)
abbrev T_X12_isSlot {α : Type} (P : ga_S) (s0 : ga_M) (K0 : ga_O → Option α) (cfg : ga_C) (r : α) : Prop := ga_T RX12 cX12_isSlot (ga_lk cl_X12_isSlot) gaGP gaCost (fun _ => []) gaCls 83 0 0 false true false none (fun S σ => S = P ∧ σ = s0) K0 cfg r
set_option maxRecDepth 100000 in
theorem t_X12_isSlot (a : Int32) (s : ga_M) (r : Int32) (h : f_X12_isSlot a s = some r) : T_X12_isSlot gaSH s gp_kI (0, [some (.ref 72), some (.int a)], [], gaSH, s, 0, 0) r := (by
    rw [fe_X12_isSlot] at h
    exact ga_T_go (sp := ga_sp []) (ga_sp_T (fun _ h => nomatch h)) (n := 600) h)
abbrev T_X12_ofClass {α : Type} (P : ga_S) (s0 : ga_M) (K0 : ga_O → Option α) (cfg : ga_C) (r : α) : Prop := ga_T RX12 cX12_ofClass (ga_lk cl_X12_ofClass) gaGP gaCost (fun _ => []) gaCls 83 0 0 false true false none (fun S σ => S = P ∧ σ = s0) K0 cfg r
set_option maxRecDepth 100000 in
theorem t_X12_ofClass_h2 (s0 : ga_M) : ∀ (n : Nat) (l1 : Int32) (l2 : Int32) (l3 : Int32) (S : ga_S) (s : ga_M) (r : Int32), f_X12_ofClass_h2 n l1 l2 l3 s = some r → T_X12_ofClass gaSH s0 gp_kI (2, [some (.ref 72), some (.int l1), some (.int l2), some (.int l3)], [], S, s, 0, 0) r := by
  intro n
  induction n with
  | zero => intro l1 l2 l3 S s r h; cases h
  | succ n ih => intro l1 l2 l3 S s r h; exact ga_T_S fun hS => (by
    obtain ⟨rfl, rfl⟩ := hS
    exact ga_T_go (sp := ga_sp [(2, 0, 0, fun L s => match L with
      | [some (.ref 72), some (.int l1), some (.int l2), some (.int l3)] => f_X12_ofClass_h2 n l1 l2 l3 s
      | _ => none)]) (ga_sp_T (List.forall_mem_cons.mpr ⟨fun L S s1 h => (by
      dsimp only at h
      split at h
      · exact ih _ _ _  S s1 _ h
      · cases h), fun _ h => nomatch h⟩)) (n := 600) h)
set_option maxRecDepth 100000 in
theorem t_X12_ofClass (a : Int32) (b : Int32) (s : ga_M) (r : Int32) (h : f_X12_ofClass a b s = some r) : T_X12_ofClass gaSH s gp_kI (0, [some (.ref 72), some (.int a), some (.int b), none], [], gaSH, s, 0, 0) r := (by
    rw [fe_X12_ofClass] at h
    exact ga_T_go (sp := ga_sp [(2, 0, 0, fun L s => match L with
      | [some (.ref 72), some (.int l1), some (.int l2), some (.int l3)] => f_X12_ofClass_h2 ga_fuel l1 l2 l3 s
      | _ => none)]) (ga_sp_T (List.forall_mem_cons.mpr ⟨fun L S s1 h => (by
      dsimp only at h
      split at h
      · exact t_X12_ofClass_h2 s ga_fuel _ _ _  S s1 _ h
      · cases h), fun _ h => nomatch h⟩)) (n := 600) h)
abbrev T_X12_ofTeacher {α : Type} (P : ga_S) (s0 : ga_M) (K0 : ga_O → Option α) (cfg : ga_C) (r : α) : Prop := ga_T RX12 cX12_ofTeacher (ga_lk cl_X12_ofTeacher) gaGP gaCost (fun _ => []) gaCls 83 0 0 false true false none (fun S σ => S = P ∧ σ = s0) K0 cfg r
set_option maxRecDepth 100000 in
theorem t_X12_ofTeacher (a : Int32) (b : Int32) (s : ga_M) (r : Int32) (h : f_X12_ofTeacher a b s = some r) : T_X12_ofTeacher gaSH s gp_kI (0, [some (.ref 72), some (.int a), some (.int b)], [], gaSH, s, 0, 0) r := (by
    rw [fe_X12_ofTeacher] at h
    exact ga_T_go (sp := ga_sp []) (ga_sp_T (fun _ h => nomatch h)) (n := 600) h)
abbrev T_X12_dayOf {α : Type} (P : ga_S) (s0 : ga_M) (K0 : ga_O → Option α) (cfg : ga_C) (r : α) : Prop := ga_T RX12 cX12_dayOf (ga_lk cl_X12_dayOf) gaGP gaCost (fun _ => []) gaCls 83 0 0 false true false none (fun S σ => S = P ∧ σ = s0) K0 cfg r
set_option maxRecDepth 100000 in
theorem t_X12_dayOf (a : Int32) (s : ga_M) (r : Int32) (h : f_X12_dayOf a s = some r) : T_X12_dayOf gaSH s gp_kI (0, [some (.ref 72), some (.int a)], [], gaSH, s, 0, 0) r := (by
    rw [fe_X12_dayOf] at h
    exact ga_T_go (sp := ga_sp []) (ga_sp_T (fun _ h => nomatch h)) (n := 600) h)
abbrev T_X12_isAbsent {α : Type} (P : ga_S) (s0 : ga_M) (K0 : ga_O → Option α) (cfg : ga_C) (r : α) : Prop := ga_T RX12 cX12_isAbsent (ga_lk cl_X12_isAbsent) gaGP gaCost (fun _ => []) gaCls 83 0 0 false true false none (fun S σ => S = P ∧ σ = s0) K0 cfg r
set_option maxRecDepth 100000 in
theorem t_X12_isAbsent (a : Int32) (b : Int32) (s : ga_M) (r : Int32) (h : f_X12_isAbsent a b s = some r) : T_X12_isAbsent gaSH s gp_kI (0, [some (.ref 72), some (.int a), some (.int b)], [], gaSH, s, 0, 0) r := (by
    rw [fe_X12_isAbsent] at h
    exact ga_T_go (sp := ga_sp []) (ga_sp_T (fun _ h => nomatch h)) (n := 600) h)
abbrev T_X12_reasonToMove {α : Type} (P : ga_S) (s0 : ga_M) (K0 : ga_O → Option α) (cfg : ga_C) (r : α) : Prop := ga_T RX12 cX12_reasonToMove (ga_lk cl_X12_reasonToMove) gaGP gaCost (fun _ => []) gaCls 83 0 0 false true false none (fun S σ => S = P ∧ σ = s0) K0 cfg r
set_option maxRecDepth 100000 in
theorem t_X12_reasonToMove (a : Int32) (b : Int32) (s : ga_M) (r : Int32) (h : f_X12_reasonToMove a b s = some r) : T_X12_reasonToMove gaSH s gp_kI (0, [some (.ref 72), some (.int a), some (.int b), none], [], gaSH, s, 0, 0) r := (by
    rw [fe_X12_reasonToMove] at h
    exact ga_T_go (sp := ga_sp []) (ga_sp_T (fun _ h => nomatch h)) (n := 600) h)
abbrev T_X12_isElsewhere {α : Type} (P : ga_S) (s0 : ga_M) (K0 : ga_O → Option α) (cfg : ga_C) (r : α) : Prop := ga_T RX12 cX12_isElsewhere (ga_lk cl_X12_isElsewhere) gaGP gaCost (fun _ => []) gaCls 83 0 0 false true false none (fun S σ => S = P ∧ σ = s0) K0 cfg r
set_option maxRecDepth 100000 in
theorem t_X12_isElsewhere (a : Int32) (b : Int32) (c : Int32) (s : ga_M) (r : Int32) (h : f_X12_isElsewhere a b c s = some r) : T_X12_isElsewhere gaSH s gp_kI (0, [some (.ref 72), some (.int a), some (.int b), some (.int c)], [], gaSH, s, 0, 0) r := (by
    rw [fe_X12_isElsewhere] at h
    exact ga_T_go (sp := ga_sp []) (ga_sp_T (fun _ h => nomatch h)) (n := 600) h)
abbrev T_X12_reasonToExchange {α : Type} (P : ga_S) (s0 : ga_M) (K0 : ga_O → Option α) (cfg : ga_C) (r : α) : Prop := ga_T RX12 cX12_reasonToExchange (ga_lk cl_X12_reasonToExchange) gaGP gaCost (fun _ => []) gaCls 83 0 0 false true false none (fun S σ => S = P ∧ σ = s0) K0 cfg r
set_option maxRecDepth 100000 in
theorem t_X12_reasonToExchange (a : Int32) (b : Int32) (s : ga_M) (r : Int32) (h : f_X12_reasonToExchange a b s = some r) : T_X12_reasonToExchange gaSH s gp_kI (0, [some (.ref 72), some (.int a), some (.int b)], [], gaSH, s, 0, 0) r := (by
    rw [fe_X12_reasonToExchange] at h
    exact ga_T_go (sp := ga_sp []) (ga_sp_T (fun _ h => nomatch h)) (n := 600) h)
abbrev T_X12_isQualified {α : Type} (P : ga_S) (s0 : ga_M) (K0 : ga_O → Option α) (cfg : ga_C) (r : α) : Prop := ga_T RX12 cX12_isQualified (ga_lk cl_X12_isQualified) gaGP gaCost (fun _ => []) gaCls 83 0 0 false true false none (fun S σ => S = P ∧ σ = s0) K0 cfg r
set_option maxRecDepth 100000 in
theorem t_X12_isQualified (a : Int32) (b : Int32) (s : ga_M) (r : Int32) (h : f_X12_isQualified a b s = some r) : T_X12_isQualified gaSH s gp_kI (0, [some (.ref 72), some (.int a), some (.int b)], [], gaSH, s, 0, 0) r := (by
    rw [fe_X12_isQualified] at h
    exact ga_T_go (sp := ga_sp []) (ga_sp_T (fun _ h => nomatch h)) (n := 600) h)
abbrev T_X12_isOnWay {α : Type} (P : ga_S) (s0 : ga_M) (K0 : ga_O → Option α) (cfg : ga_C) (r : α) : Prop := ga_T RX12 cX12_isOnWay (ga_lk cl_X12_isOnWay) gaGP gaCost (fun _ => []) gaCls 83 0 0 false true false none (fun S σ => S = P ∧ σ = s0) K0 cfg r
set_option maxRecDepth 100000 in
theorem t_X12_isOnWay_h5 (s0 : ga_M) : ∀ (n : Nat) (l1 : Int32) (l2 : Int32) (l3 : Int32) (l4 : Int32) (S : ga_S) (s : ga_M) (r : Int32), f_X12_isOnWay_h5 n l1 l2 l3 l4 s = some r → T_X12_isOnWay gaSH s0 gp_kI (5, [some (.ref 72), some (.int l1), some (.int l2), some (.int l3), some (.int l4)], [], S, s, 0, 0) r := by
  intro n
  induction n with
  | zero => intro l1 l2 l3 l4 S s r h; cases h
  | succ n ih => intro l1 l2 l3 l4 S s r h; exact ga_T_S fun hS => (by
    obtain ⟨rfl, rfl⟩ := hS
    exact ga_T_go (sp := ga_sp [(5, 0, 0, fun L s => match L with
      | [some (.ref 72), some (.int l1), some (.int l2), some (.int l3), some (.int l4)] => f_X12_isOnWay_h5 n l1 l2 l3 l4 s
      | _ => none)]) (ga_sp_T (List.forall_mem_cons.mpr ⟨fun L S s1 h => (by
      dsimp only at h
      split at h
      · exact ih _ _ _ _  S s1 _ h
      · cases h), fun _ h => nomatch h⟩)) (n := 600) h)
set_option maxRecDepth 100000 in
theorem t_X12_isOnWay (a : Int32) (b : Int32) (s : ga_M) (r : Int32) (h : f_X12_isOnWay a b s = some r) : T_X12_isOnWay gaSH s gp_kI (0, [some (.ref 72), some (.int a), some (.int b), none, none], [], gaSH, s, 0, 0) r := (by
    rw [fe_X12_isOnWay] at h
    exact ga_T_go (sp := ga_sp [(5, 0, 0, fun L s => match L with
      | [some (.ref 72), some (.int l1), some (.int l2), some (.int l3), some (.int l4)] => f_X12_isOnWay_h5 ga_fuel l1 l2 l3 l4 s
      | _ => none)]) (ga_sp_T (List.forall_mem_cons.mpr ⟨fun L S s1 h => (by
      dsimp only at h
      split at h
      · exact t_X12_isOnWay_h5 s ga_fuel _ _ _ _  S s1 _ h
      · cases h), fun _ h => nomatch h⟩)) (n := 600) h)
abbrev T_X12_isTaught {α : Type} (P : ga_S) (s0 : ga_M) (K0 : ga_O → Option α) (cfg : ga_C) (r : α) : Prop := ga_T RX12 cX12_isTaught (ga_lk cl_X12_isTaught) gaGP gaCost (fun _ => []) gaCls 83 0 0 false true false none (fun S σ => S = P ∧ σ = s0) K0 cfg r
set_option maxRecDepth 100000 in
theorem t_X12_isTaught (a : Int32) (s : ga_M) (r : Int32) (h : f_X12_isTaught a s = some r) : T_X12_isTaught gaSH s gp_kI (0, [some (.ref 72), some (.int a)], [], gaSH, s, 0, 0) r := (by
    rw [fe_X12_isTaught] at h
    exact ga_T_go (sp := ga_sp []) (ga_sp_T (fun _ h => nomatch h)) (n := 600) h)
abbrev T_X12_taughtBy {α : Type} (P : ga_S) (s0 : ga_M) (K0 : ga_O → Option α) (cfg : ga_C) (r : α) : Prop := ga_T RX12 cX12_taughtBy (ga_lk cl_X12_taughtBy) gaGP gaCost (fun _ => []) gaCls 83 0 0 false true false none (fun S σ => S = P ∧ σ = s0) K0 cfg r
set_option maxRecDepth 100000 in
theorem t_X12_taughtBy_h4 (s0 : ga_M) : ∀ (n : Nat) (l1 : Int32) (l2 : Int32) (l3 : Int32) (S : ga_S) (s : ga_M) (r : Int32), f_X12_taughtBy_h4 n l1 l2 l3 s = some r → T_X12_taughtBy gaSH s0 gp_kI (4, [some (.ref 72), some (.int l1), some (.int l2), some (.int l3)], [], S, s, 0, 0) r := by
  intro n
  induction n with
  | zero => intro l1 l2 l3 S s r h; cases h
  | succ n ih => intro l1 l2 l3 S s r h; exact ga_T_S fun hS => (by
    obtain ⟨rfl, rfl⟩ := hS
    exact ga_T_go (sp := ga_sp [(4, 0, 0, fun L s => match L with
      | [some (.ref 72), some (.int l1), some (.int l2), some (.int l3)] => f_X12_taughtBy_h4 n l1 l2 l3 s
      | _ => none)]) (ga_sp_T (List.forall_mem_cons.mpr ⟨fun L S s1 h => (by
      dsimp only at h
      split at h
      · exact ih _ _ _  S s1 _ h
      · cases h), fun _ h => nomatch h⟩)) (n := 600) h)
set_option maxRecDepth 100000 in
theorem t_X12_taughtBy (a : Int32) (s : ga_M) (r : Int32) (h : f_X12_taughtBy a s = some r) : T_X12_taughtBy gaSH s gp_kI (0, [some (.ref 72), some (.int a), none, none], [], gaSH, s, 0, 0) r := (by
    rw [fe_X12_taughtBy] at h
    exact ga_T_go (sp := ga_sp [(4, 0, 0, fun L s => match L with
      | [some (.ref 72), some (.int l1), some (.int l2), some (.int l3)] => f_X12_taughtBy_h4 ga_fuel l1 l2 l3 s
      | _ => none)]) (ga_sp_T (List.forall_mem_cons.mpr ⟨fun L S s1 h => (by
      dsimp only at h
      split at h
      · exact t_X12_taughtBy_h4 s ga_fuel _ _ _  S s1 _ h
      · cases h), fun _ h => nomatch h⟩)) (n := 600) h)
abbrev T_X12_firstBy {α : Type} (P : ga_S) (s0 : ga_M) (K0 : ga_O → Option α) (cfg : ga_C) (r : α) : Prop := ga_T RX12 cX12_firstBy (ga_lk cl_X12_firstBy) gaGP gaCost (fun _ => []) gaCls 83 0 0 false true false none (fun S σ => S = P ∧ σ = s0) K0 cfg r
set_option maxRecDepth 100000 in
theorem t_X12_firstBy_h4 (s0 : ga_M) : ∀ (n : Nat) (l1 : Int32) (l2 : Int32) (l3 : Int32) (S : ga_S) (s : ga_M) (r : Int32), f_X12_firstBy_h4 n l1 l2 l3 s = some r → T_X12_firstBy gaSH s0 gp_kI (4, [some (.ref 72), some (.int l1), some (.int l2), some (.int l3)], [], S, s, 0, 0) r := by
  intro n
  induction n with
  | zero => intro l1 l2 l3 S s r h; cases h
  | succ n ih => intro l1 l2 l3 S s r h; exact ga_T_S fun hS => (by
    obtain ⟨rfl, rfl⟩ := hS
    exact ga_T_go (sp := ga_sp [(4, 0, 0, fun L s => match L with
      | [some (.ref 72), some (.int l1), some (.int l2), some (.int l3)] => f_X12_firstBy_h4 n l1 l2 l3 s
      | _ => none)]) (ga_sp_T (List.forall_mem_cons.mpr ⟨fun L S s1 h => (by
      dsimp only at h
      split at h
      · exact ih _ _ _  S s1 _ h
      · cases h), fun _ h => nomatch h⟩)) (n := 600) h)
set_option maxRecDepth 100000 in
theorem t_X12_firstBy (a : Int32) (s : ga_M) (r : Int32) (h : f_X12_firstBy a s = some r) : T_X12_firstBy gaSH s gp_kI (0, [some (.ref 72), some (.int a), none, none], [], gaSH, s, 0, 0) r := (by
    rw [fe_X12_firstBy] at h
    exact ga_T_go (sp := ga_sp [(4, 0, 0, fun L s => match L with
      | [some (.ref 72), some (.int l1), some (.int l2), some (.int l3)] => f_X12_firstBy_h4 ga_fuel l1 l2 l3 s
      | _ => none)]) (ga_sp_T (List.forall_mem_cons.mpr ⟨fun L S s1 h => (by
      dsimp only at h
      split at h
      · exact t_X12_firstBy_h4 s ga_fuel _ _ _  S s1 _ h
      · cases h), fun _ h => nomatch h⟩)) (n := 600) h)
abbrev T_X12_loadOf {α : Type} (P : ga_S) (s0 : ga_M) (K0 : ga_O → Option α) (cfg : ga_C) (r : α) : Prop := ga_T RX12 cX12_loadOf (ga_lk cl_X12_loadOf) gaGP gaCost (fun _ => []) gaCls 83 0 0 false true false none (fun S σ => S = P ∧ σ = s0) K0 cfg r
set_option maxRecDepth 100000 in
theorem t_X12_loadOf (a : Int32) (s : ga_M) (r : Int32) (h : f_X12_loadOf a s = some r) : T_X12_loadOf gaSH s gp_kI (0, [some (.ref 72), some (.int a)], [], gaSH, s, 0, 0) r := (by
    rw [fe_X12_loadOf] at h
    exact ga_T_go (sp := ga_sp []) (ga_sp_T (fun _ h => nomatch h)) (n := 600) h)
abbrev T_X12_goes3 {α : Type} (P : ga_S) (K0 : ga_O → Option α) (cfg : ga_C) (r : α) : Prop := ga_T RX12 cX12_goes (ga_lk cl_X12_goes3) gaG gaCost (fun _ => []) gaCls 83 0 0 false true true none (fun S _ => S = P) K0 cfg r
set_option maxRecDepth 100000 in
theorem t_X12_goes3_h167 {go3 : Int32 → Int32 → Int32 → Int32 → Int32 → ga_M → Option (ga_M)} (hgo3 : ∀ (l1 : Int32) (l2 : Int32) (l3 : Int32) (l4 : Int32) (l5 : Int32) (w0 : Option Value) (w1 : Option Value) (w2 : Option Value) (S : ga_S) (s : ga_M) (r : ga_M), go3 l1 l2 l3 l4 l5 s = some r → T_X12_goes3 gaSH ga_kV (3, [some (.ref 72), some (.int l1), some (.int l2), some (.int l3), some (.int l4), some (.int l5), w0, w1, w2], [], S, s, 0, 0) r) : ∀ (n : Nat) (l1 : Int32) (l2 : Int32) (l3 : Int32) (l4 : Int32) (l5 : Int32) (l8 : Int32) (w0 : Option Value) (w1 : Option Value) (S : ga_S) (s : ga_M) (r : ga_M), f_X12_goes3_h167 go3 n l1 l2 l3 l4 l5 l8 s = some r → T_X12_goes3 gaSH ga_kV (167, [some (.ref 72), some (.int l1), some (.int l2), some (.int l3), some (.int l4), some (.int l5), w0, w1, some (.int l8)], [], S, s, 0, 0) r := by
  intro n
  induction n with
  | zero => intro l1 l2 l3 l4 l5 l8 w0 w1 S s r h; cases h
  | succ n ih => intro l1 l2 l3 l4 l5 l8 w0 w1 S s r h; exact ga_T_S fun hS => (by
    cases hS
    exact ga_T_go (sp := ga_sp [(3, 0, 0, fun L s => match L with
      | [some (.ref 72), some (.int l1), some (.int l2), some (.int l3), some (.int l4), some (.int l5), _, _, _] => go3 l1 l2 l3 l4 l5 s
      | _ => none), (167, 0, 0, fun L s => match L with
      | [some (.ref 72), some (.int l1), some (.int l2), some (.int l3), some (.int l4), some (.int l5), _, _, some (.int l8)] => f_X12_goes3_h167 go3 n l1 l2 l3 l4 l5 l8 s
      | _ => none)]) (ga_sp_T (List.forall_mem_cons.mpr ⟨fun L S s1 h => (by
      dsimp only at h
      split at h
      · exact hgo3 _ _ _ _ _ _ _ _ S s1 _ h
      · cases h), List.forall_mem_cons.mpr ⟨fun L S s1 h => (by
      dsimp only at h
      split at h
      · exact ih _ _ _ _ _ _ _ _ S s1 _ h
      · cases h), fun _ h => nomatch h⟩⟩)) (n := 600) h)
set_option maxRecDepth 100000 in
theorem t_X12_goes3_h3 : ∀ (n : Nat) (l1 : Int32) (l2 : Int32) (l3 : Int32) (l4 : Int32) (l5 : Int32) (w0 : Option Value) (w1 : Option Value) (w2 : Option Value) (S : ga_S) (s : ga_M) (r : ga_M), f_X12_goes3_h3 n l1 l2 l3 l4 l5 s = some r → T_X12_goes3 gaSH ga_kV (3, [some (.ref 72), some (.int l1), some (.int l2), some (.int l3), some (.int l4), some (.int l5), w0, w1, w2], [], S, s, 0, 0) r := by
  intro n
  induction n with
  | zero => intro l1 l2 l3 l4 l5 w0 w1 w2 S s r h; cases h
  | succ n ih => intro l1 l2 l3 l4 l5 w0 w1 w2 S s r h; exact ga_T_S fun hS => (by
    cases hS
    exact ga_T_go (sp := ga_sp [(3, 0, 0, fun L s => match L with
      | [some (.ref 72), some (.int l1), some (.int l2), some (.int l3), some (.int l4), some (.int l5), _, _, _] => f_X12_goes3_h3 n l1 l2 l3 l4 l5 s
      | _ => none), (167, 0, 0, fun L s => match L with
      | [some (.ref 72), some (.int l1), some (.int l2), some (.int l3), some (.int l4), some (.int l5), _, _, some (.int l8)] => f_X12_goes3_h167 (f_X12_goes3_h3 n) ga_fuel l1 l2 l3 l4 l5 l8 s
      | _ => none)]) (ga_sp_T (List.forall_mem_cons.mpr ⟨fun L S s1 h => (by
      dsimp only at h
      split at h
      · exact ih _ _ _ _ _ _ _ _ S s1 _ h
      · cases h), List.forall_mem_cons.mpr ⟨fun L S s1 h => (by
      dsimp only at h
      split at h
      · exact t_X12_goes3_h167 ih ga_fuel _ _ _ _ _ _ _ _ S s1 _ h
      · cases h), fun _ h => nomatch h⟩⟩)) (n := 600) h)
set_option maxRecDepth 100000 in
theorem t_X12_goes3 (a : Int32) (b : Int32) (c : Int32) (d : Int32) (s : ga_M) (r : ga_M) (h : f_X12_goes3 a b c d s = some r) : T_X12_goes3 gaSH ga_kV (0, [some (.ref 72), some (.int a), some (.int b), some (.int c), some (.int d), none, none, none, none], [], gaSH, s, 0, 0) r := (by
    rw [fe_X12_goes3] at h
    exact ga_T_go (sp := ga_sp [(3, 0, 0, fun L s => match L with
      | [some (.ref 72), some (.int l1), some (.int l2), some (.int l3), some (.int l4), some (.int l5), _, _, _] => f_X12_goes3_h3 ga_fuel l1 l2 l3 l4 l5 s
      | _ => none)]) (ga_sp_T (List.forall_mem_cons.mpr ⟨fun L S s1 h => (by
      dsimp only at h
      split at h
      · exact t_X12_goes3_h3 ga_fuel _ _ _ _ _ _ _ _ S s1 _ h
      · cases h), fun _ h => nomatch h⟩)) (n := 600) h)
abbrev T_X12_goes2 {α : Type} (P : ga_S) (K0 : ga_O → Option α) (cfg : ga_C) (r : α) : Prop := ga_T RX12 cX12_goes (ga_lk cl_X12_goes2) gaG gaCost (fun _ => []) gaCls 83 0 0 false true true none (fun S _ => S = P) K0 cfg r
set_option maxRecDepth 100000 in
theorem t_X12_goes2_h167 {go3 : Int32 → Int32 → Int32 → Int32 → Int32 → ga_M → Option (ga_M)} (hgo3 : ∀ (l1 : Int32) (l2 : Int32) (l3 : Int32) (l4 : Int32) (l5 : Int32) (w0 : Option Value) (w1 : Option Value) (w2 : Option Value) (S : ga_S) (s : ga_M) (r : ga_M), go3 l1 l2 l3 l4 l5 s = some r → T_X12_goes2 gaSH ga_kV (3, [some (.ref 72), some (.int l1), some (.int l2), some (.int l3), some (.int l4), some (.int l5), w0, w1, w2], [], S, s, 0, 0) r) : ∀ (n : Nat) (l1 : Int32) (l2 : Int32) (l3 : Int32) (l4 : Int32) (l5 : Int32) (l8 : Int32) (w0 : Option Value) (w1 : Option Value) (S : ga_S) (s : ga_M) (r : ga_M), f_X12_goes2_h167 go3 n l1 l2 l3 l4 l5 l8 s = some r → T_X12_goes2 gaSH ga_kV (167, [some (.ref 72), some (.int l1), some (.int l2), some (.int l3), some (.int l4), some (.int l5), w0, w1, some (.int l8)], [], S, s, 0, 0) r := by
  intro n
  induction n with
  | zero => intro l1 l2 l3 l4 l5 l8 w0 w1 S s r h; cases h
  | succ n ih => intro l1 l2 l3 l4 l5 l8 w0 w1 S s r h; exact ga_T_S fun hS => (by
    cases hS
    exact ga_T_go (sp := ga_sp [(3, 0, 0, fun L s => match L with
      | [some (.ref 72), some (.int l1), some (.int l2), some (.int l3), some (.int l4), some (.int l5), _, _, _] => go3 l1 l2 l3 l4 l5 s
      | _ => none), (167, 0, 0, fun L s => match L with
      | [some (.ref 72), some (.int l1), some (.int l2), some (.int l3), some (.int l4), some (.int l5), _, _, some (.int l8)] => f_X12_goes2_h167 go3 n l1 l2 l3 l4 l5 l8 s
      | _ => none)]) (ga_sp_T (List.forall_mem_cons.mpr ⟨fun L S s1 h => (by
      dsimp only at h
      split at h
      · exact hgo3 _ _ _ _ _ _ _ _ S s1 _ h
      · cases h), List.forall_mem_cons.mpr ⟨fun L S s1 h => (by
      dsimp only at h
      split at h
      · exact ih _ _ _ _ _ _ _ _ S s1 _ h
      · cases h), fun _ h => nomatch h⟩⟩)) (n := 600) h)
set_option maxRecDepth 100000 in
theorem t_X12_goes2_h3 : ∀ (n : Nat) (l1 : Int32) (l2 : Int32) (l3 : Int32) (l4 : Int32) (l5 : Int32) (w0 : Option Value) (w1 : Option Value) (w2 : Option Value) (S : ga_S) (s : ga_M) (r : ga_M), f_X12_goes2_h3 n l1 l2 l3 l4 l5 s = some r → T_X12_goes2 gaSH ga_kV (3, [some (.ref 72), some (.int l1), some (.int l2), some (.int l3), some (.int l4), some (.int l5), w0, w1, w2], [], S, s, 0, 0) r := by
  intro n
  induction n with
  | zero => intro l1 l2 l3 l4 l5 w0 w1 w2 S s r h; cases h
  | succ n ih => intro l1 l2 l3 l4 l5 w0 w1 w2 S s r h; exact ga_T_S fun hS => (by
    cases hS
    exact ga_T_go (sp := ga_sp [(3, 0, 0, fun L s => match L with
      | [some (.ref 72), some (.int l1), some (.int l2), some (.int l3), some (.int l4), some (.int l5), _, _, _] => f_X12_goes2_h3 n l1 l2 l3 l4 l5 s
      | _ => none), (167, 0, 0, fun L s => match L with
      | [some (.ref 72), some (.int l1), some (.int l2), some (.int l3), some (.int l4), some (.int l5), _, _, some (.int l8)] => f_X12_goes2_h167 (f_X12_goes2_h3 n) ga_fuel l1 l2 l3 l4 l5 l8 s
      | _ => none)]) (ga_sp_T (List.forall_mem_cons.mpr ⟨fun L S s1 h => (by
      dsimp only at h
      split at h
      · exact ih _ _ _ _ _ _ _ _ S s1 _ h
      · cases h), List.forall_mem_cons.mpr ⟨fun L S s1 h => (by
      dsimp only at h
      split at h
      · exact t_X12_goes2_h167 ih ga_fuel _ _ _ _ _ _ _ _ S s1 _ h
      · cases h), fun _ h => nomatch h⟩⟩)) (n := 600) h)
set_option maxRecDepth 100000 in
theorem t_X12_goes2 (a : Int32) (b : Int32) (c : Int32) (d : Int32) (s : ga_M) (r : ga_M) (h : f_X12_goes2 a b c d s = some r) : T_X12_goes2 gaSH ga_kV (0, [some (.ref 72), some (.int a), some (.int b), some (.int c), some (.int d), none, none, none, none], [], gaSH, s, 0, 0) r := (by
    rw [fe_X12_goes2] at h
    exact ga_T_go (sp := ga_sp [(3, 0, 0, fun L s => match L with
      | [some (.ref 72), some (.int l1), some (.int l2), some (.int l3), some (.int l4), some (.int l5), _, _, _] => f_X12_goes2_h3 ga_fuel l1 l2 l3 l4 l5 s
      | _ => none)]) (ga_sp_T (List.forall_mem_cons.mpr ⟨fun L S s1 h => (by
      dsimp only at h
      split at h
      · exact t_X12_goes2_h3 ga_fuel _ _ _ _ _ _ _ _ S s1 _ h
      · cases h), fun _ h => nomatch h⟩)) (n := 600) h)
