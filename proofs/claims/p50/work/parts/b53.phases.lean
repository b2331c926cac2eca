noncomputable section
/-! the school before it is full: the table of calls there -/
def c1_X7_becomeEmpty {α : Type} (as : List Value) (S : ga_S) (s : ga_M) (K : ga_O → Option α) : Option α := match as with
  | [.ref r0] => bif Nat.beq r0 1 then K (.inl none, S, v_X7_becomeEmpty s) else none
  | _ => none
def c1_X7_addSubject {α : Type} (as : List Value) (S : ga_S) (s : ga_M) (K : ga_O → Option α) : Option α := match as with
  | [.ref r0, .int a] => bif Nat.beq r0 1 then K (.inl none, S, v_X7_addSubject a s) else none
  | _ => none
def c1_X7_addTeacher {α : Type} (as : List Value) (S : ga_S) (s : ga_M) (K : ga_O → Option α) : Option α := match as with
  | [.ref r0, .int a, .int b] => bif Nat.beq r0 1 then K (.inl none, S, v_X7_addTeacher a b s) else none
  | _ => none
def c1_X7_addRoom {α : Type} (as : List Value) (S : ga_S) (s : ga_M) (K : ga_O → Option α) : Option α := match as with
  | [.ref r0, .int a] => bif Nat.beq r0 1 then K (.inl none, S, v_X7_addRoom a s) else none
  | _ => none
def c1_X7_addLesson {α : Type} (as : List Value) (S : ga_S) (s : ga_M) (K : ga_O → Option α) : Option α := match as with
  | [.ref r0, .int a, .int b, .int c, .int d, .int e] => bif Nat.beq r0 1 then K (.inl none, S, v_X7_addLesson a b c d e s) else none
  | _ => none
def c1_X7_becomeSample {α : Type} (as : List Value) (S : ga_S) (s : ga_M) (K : ga_O → Option α) : Option α := match as with
  | [.ref r0] => bif Nat.beq r0 1 then K (.inl none, S, v_X7_becomeSample s) else none
  | _ => none
def gaG1 : ga_G := fun α mid as S s K => bif Nat.beq mid 2 then c_X6_put as S s K else (bif Nat.beq mid 7 then c1_X7_becomeEmpty as S s K else (bif Nat.beq mid 24 then c1_X7_addSubject as S s K else (bif Nat.beq mid 26 then c1_X7_addTeacher as S s K else (bif Nat.beq mid 30 then c1_X7_addRoom as S s K else (bif Nat.beq mid 38 then c1_X7_addLesson as S s K else (bif Nat.beq mid 112 then c1_X7_becomeSample as S s K else (none)))))))
theorem ge1_X7_becomeEmpty (as : List Value) (S : ga_S) (s : ga_M) : ge_N (fun o => o.2.1 = S) (fun α K => c1_X7_becomeEmpty as S s K) := by
  unfold c1_X7_becomeEmpty
  split
  · exact ge_cond (ge_K rfl) ge_none
  · exact ge_none
theorem ge1_X7_addSubject (as : List Value) (S : ga_S) (s : ga_M) : ge_N (fun o => o.2.1 = S) (fun α K => c1_X7_addSubject as S s K) := by
  unfold c1_X7_addSubject
  split
  · exact ge_cond (ge_K rfl) ge_none
  · exact ge_none
theorem ge1_X7_addTeacher (as : List Value) (S : ga_S) (s : ga_M) : ge_N (fun o => o.2.1 = S) (fun α K => c1_X7_addTeacher as S s K) := by
  unfold c1_X7_addTeacher
  split
  · exact ge_cond (ge_K rfl) ge_none
  · exact ge_none
theorem ge1_X7_addRoom (as : List Value) (S : ga_S) (s : ga_M) : ge_N (fun o => o.2.1 = S) (fun α K => c1_X7_addRoom as S s K) := by
  unfold c1_X7_addRoom
  split
  · exact ge_cond (ge_K rfl) ge_none
  · exact ge_none
theorem ge1_X7_addLesson (as : List Value) (S : ga_S) (s : ga_M) : ge_N (fun o => o.2.1 = S) (fun α K => c1_X7_addLesson as S s K) := by
  unfold c1_X7_addLesson
  split
  · exact ge_cond (ge_K rfl) ge_none
  · exact ge_none
theorem ge1_X7_becomeSample (as : List Value) (S : ga_S) (s : ga_M) : ge_N (fun o => o.2.1 = S) (fun α K => c1_X7_becomeSample as S s K) := by
  unfold c1_X7_becomeSample
  split
  · exact ge_cond (ge_K rfl) ge_none
  · exact ge_none
theorem ge_G1 (mid : Nat) (as : List Value) (S : ga_S) (s : ga_M) : ge_N (fun o => o.2.1 = S) (fun α K => gaG1 α mid as S s K) := ge_cond (ge_X6_put as S s) (ge_cond (ge1_X7_becomeEmpty as S s) (ge_cond (ge1_X7_addSubject as S s) (ge_cond (ge1_X7_addTeacher as S s) (ge_cond (ge1_X7_addRoom as S s) (ge_cond (ge1_X7_addLesson as S s) (ge_cond (ge1_X7_becomeSample as S s) (ge_none)))))))
theorem gx_s1 : gx_sm gaS1 := gx_sm_of (by decide +kernel)
theorem gx_s2 : gx_sm gaS2 := gx_sm_of (by decide +kernel)
abbrev T1_X7_becomeEmpty {α : Type} (P : ga_S) (K0 : ga_O → Option α) (cfg : ga_C) (r : α) : Prop := ga_T RX7 cX7_becomeEmpty (ga_lk cl_X7_becomeEmpty) gaG1 gaCost (fun _ => []) gaCls 84 0 0 false true true none (fun S _ => S = P) K0 cfg r
set_option maxRecDepth 100000 in
theorem t_X7_becomeEmpty_S1 (s : ga_M) (r : ga_M) (h : f_X7_becomeEmpty s = some r) : T1_X7_becomeEmpty gaS1 ga_kV (0, [some (.ref 1)], [], gaS1, s, 0, 0) r := (by
    rw [fe_X7_becomeEmpty] at h
    exact ga_T_go (sp := ga_sp []) (ga_sp_T (fun _ h => nomatch h)) (n := 600) h)
abbrev T1_X7_addSubject {α : Type} (P : ga_S) (K0 : ga_O → Option α) (cfg : ga_C) (r : α) : Prop := ga_T RX7 cX7_addSubject (ga_lk cl_X7_addSubject) gaG1 gaCost (fun _ => []) gaCls 84 0 0 false true true none (fun S _ => S = P) K0 cfg r
set_option maxRecDepth 100000 in
theorem t_X7_addSubject_S1 (a : Int32) (s : ga_M) (r : ga_M) (h : f_X7_addSubject a s = some r) : T1_X7_addSubject gaS1 ga_kV (0, [some (.ref 1), some (.int a)], [], gaS1, s, 0, 0) r := (by
    rw [fe_X7_addSubject] at h
    exact ga_T_go (sp := ga_sp []) (ga_sp_T (fun _ h => nomatch h)) (n := 600) h)
abbrev T1_X7_addTeacher {α : Type} (P : ga_S) (K0 : ga_O → Option α) (cfg : ga_C) (r : α) : Prop := ga_T RX7 cX7_addTeacher (ga_lk cl_X7_addTeacher) gaG1 gaCost (fun _ => []) gaCls 84 0 0 false true true none (fun S _ => S = P) K0 cfg r
set_option maxRecDepth 100000 in
theorem t_X7_addTeacher_S1 (a : Int32) (b : Int32) (s : ga_M) (r : ga_M) (h : f_X7_addTeacher a b s = some r) : T1_X7_addTeacher gaS1 ga_kV (0, [some (.ref 1), some (.int a), some (.int b)], [], gaS1, s, 0, 0) r := (by
    rw [fe_X7_addTeacher] at h
    exact ga_T_go (sp := ga_sp []) (ga_sp_T (fun _ h => nomatch h)) (n := 600) h)
abbrev T1_X7_addRoom {α : Type} (P : ga_S) (K0 : ga_O → Option α) (cfg : ga_C) (r : α) : Prop := ga_T RX7 cX7_addRoom (ga_lk cl_X7_addRoom) gaG1 gaCost (fun _ => []) gaCls 84 0 0 false true true none (fun S _ => S = P) K0 cfg r
set_option maxRecDepth 100000 in
theorem t_X7_addRoom_S1 (a : Int32) (s : ga_M) (r : ga_M) (h : f_X7_addRoom a s = some r) : T1_X7_addRoom gaS1 ga_kV (0, [some (.ref 1), some (.int a)], [], gaS1, s, 0, 0) r := (by
    rw [fe_X7_addRoom] at h
    exact ga_T_go (sp := ga_sp []) (ga_sp_T (fun _ h => nomatch h)) (n := 600) h)
abbrev T1_X7_addLesson {α : Type} (P : ga_S) (K0 : ga_O → Option α) (cfg : ga_C) (r : α) : Prop := ga_T RX7 cX7_addLesson (ga_lk cl_X7_addLesson) gaG1 gaCost (fun _ => []) gaCls 84 0 0 false true true none (fun S _ => S = P) K0 cfg r
set_option maxRecDepth 100000 in
theorem t_X7_addLesson_S1 (a : Int32) (b : Int32) (c : Int32) (d : Int32) (e : Int32) (s : ga_M) (r : ga_M) (h : f_X7_addLesson a b c d e s = some r) : T1_X7_addLesson gaS1 ga_kV (0, [some (.ref 1), some (.int a), some (.int b), some (.int c), some (.int d), some (.int e)], [], gaS1, s, 0, 0) r := (by
    rw [fe_X7_addLesson] at h
    exact ga_T_go (sp := ga_sp []) (ga_sp_T (fun _ h => nomatch h)) (n := 600) h)
abbrev T1_X7_becomeSample {α : Type} (P : ga_S) (K0 : ga_O → Option α) (cfg : ga_C) (r : α) : Prop := ga_T RX7 cX7_becomeSample (ga_lk cl_X7_becomeSample) gaG1 gaCost (fun _ => []) gaCls 84 0 0 false true true none (fun S _ => S = P) K0 cfg r
set_option maxRecDepth 100000 in
theorem t_X7_becomeSample_S1 (s : ga_M) (r : ga_M) (h : f_X7_becomeSample s = some r) : T1_X7_becomeSample gaS1 ga_kV (0, [some (.ref 1)], [], gaS1, s, 0, 0) r := (by
    rw [fe_X7_becomeSample] at h
    exact ga_T_go (sp := ga_sp []) (ga_sp_T (fun _ h => nomatch h)) (n := 600) h)
set_option maxRecDepth 100000 in
theorem t_X7_dayOf_S2 (a : Int32) (s : ga_M) (r : Int32) (h : f_X7_dayOf a s = some r) : T_X7_dayOf gaS2 s gp_kI (0, [some (.ref 1), some (.int a)], [], gaS2, s, 0, 0) r := (by
    rw [fe_X7_dayOf] at h
    exact ga_T_go (sp := ga_sp []) (ga_sp_T (fun _ h => nomatch h)) (n := 600) h)
set_option maxRecDepth 100000 in
theorem t_X11_hasBit_S2 (a : Int32) (b : Int32) (s : ga_M) (r : Int32) (h : f_X11_hasBit a b s = some r) : T_X11_hasBit gaS2 s gp_kI (0, [some (.int a), some (.int b)], [], gaS2, s, 0, 0) r := (by
    rw [fe_X11_hasBit] at h
    exact ga_T_go (sp := ga_sp []) (ga_sp_T (fun _ h => nomatch h)) (n := 600) h)
set_option maxRecDepth 100000 in
theorem t_X3_isAway_S2 (a : Int32) (b : Int32) (s : ga_M) (r : Int32) (h : f_X3_isAway a b s = some r) : T_X3_isAway gaS2 s gp_kI (0, [some (.ref 20), some (.int a), some (.int b)], [], gaS2, s, 0, 0) r := (by
    rw [fe_X3_isAway] at h
    exact ga_T_go (sp := ga_sp []) (ga_sp_T (fun _ h => nomatch h)) (n := 600) h)
set_option maxRecDepth 100000 in
theorem t_X3_isAwayAt_S2 (a : Int32) (b : Int32) (s : ga_M) (r : Int32) (h : f_X3_isAwayAt a b s = some r) : T_X3_isAwayAt gaS2 s gp_kI (0, [some (.ref 20), some (.int a), some (.int b)], [], gaS2, s, 0, 0) r := (by
    rw [fe_X3_isAwayAt] at h
    exact ga_T_go (sp := ga_sp []) (ga_sp_T (fun _ h => nomatch h)) (n := 600) h)
set_option maxRecDepth 100000 in
theorem t_X3_returnToFirst_S2_h2 : ∀ (n : Nat) (l1 : Int32) (w0 : Option Value) (w1 : Option Value) (S : ga_S) (s : ga_M) (r : ga_M), f_X3_returnToFirst_h2 n l1 s = some r → T_X3_returnToFirst gaS2 ga_kV (2, [some (.ref 20), some (.int l1), w0, w1], [], S, s, 0, 0) r := by
  intro n
  induction n with
  | zero => intro l1 w0 w1 S s r h; cases h
  | succ n ih => intro l1 w0 w1 S s r h; exact ga_T_S fun hS => (by
    cases hS
    exact ga_T_go (sp := ga_sp [(2, 0, 0, fun L s => match L with
      | [some (.ref 20), some (.int l1), _, _] => f_X3_returnToFirst_h2 n l1 s
      | _ => none)]) (ga_sp_T (List.forall_mem_cons.mpr ⟨fun L S s1 h => (by
      dsimp only at h
      split at h
      · exact ih _ _ _ S s1 _ h
      · cases h), fun _ h => nomatch h⟩)) (n := 600) h)
set_option maxRecDepth 100000 in
theorem t_X3_returnToFirst_S2 (s : ga_M) (r : ga_M) (h : f_X3_returnToFirst s = some r) : T_X3_returnToFirst gaS2 ga_kV (0, [some (.ref 20), none, none, none], [], gaS2, s, 0, 0) r := (by
    rw [fe_X3_returnToFirst] at h
    exact ga_T_go (sp := ga_sp [(2, 0, 0, fun L s => match L with
      | [some (.ref 20), some (.int l1), _, _] => f_X3_returnToFirst_h2 ga_fuel l1 s
      | _ => none)]) (ga_sp_T (List.forall_mem_cons.mpr ⟨fun L S s1 h => (by
      dsimp only at h
      split at h
      · exact t_X3_returnToFirst_S2_h2 ga_fuel _ _ _ S s1 _ h
      · cases h), fun _ h => nomatch h⟩)) (n := 600) h)
set_option maxRecDepth 100000 in
theorem t_X3_begin_S2_h2 : ∀ (n : Nat) (l1 : Int32) (S : ga_S) (s : ga_M) (r : ga_M), f_X3_begin_h2 n l1 s = some r → T_X3_begin gaS2 ga_kV (2, [some (.ref 20), some (.int l1)], [], S, s, 0, 0) r := by
  intro n
  induction n with
  | zero => intro l1 S s r h; cases h
  | succ n ih => intro l1 S s r h; exact ga_T_S fun hS => (by
    cases hS
    exact ga_T_go (sp := ga_sp [(2, 0, 0, fun L s => match L with
      | [some (.ref 20), some (.int l1)] => f_X3_begin_h2 n l1 s
      | _ => none)]) (ga_sp_T (List.forall_mem_cons.mpr ⟨fun L S s1 h => (by
      dsimp only at h
      split at h
      · exact ih _  S s1 _ h
      · cases h), fun _ h => nomatch h⟩)) (n := 600) h)
set_option maxRecDepth 100000 in
theorem t_X3_begin_S2 (s : ga_M) (r : ga_M) (h : f_X3_begin s = some r) : T_X3_begin gaS2 ga_kV (0, [some (.ref 20), none], [], gaS2, s, 0, 0) r := (by
    rw [fe_X3_begin] at h
    exact ga_T_go (sp := ga_sp [(2, 0, 0, fun L s => match L with
      | [some (.ref 20), some (.int l1)] => f_X3_begin_h2 ga_fuel l1 s
      | _ => none)]) (ga_sp_T (List.forall_mem_cons.mpr ⟨fun L S s1 h => (by
      dsimp only at h
      split at h
      · exact t_X3_begin_S2_h2 ga_fuel _  S s1 _ h
      · cases h), fun _ h => nomatch h⟩)) (n := 600) h)
set_option maxRecDepth 100000 in
theorem t_X10_append_A1_h3 : ∀ (n : Nat) (l1 : Int32) (l2 : Int32) (S : ga_S) (s : ga_M) (r : ga_M), f_X10_append_h3 n l1 l2 s = some r → T_X10_append gaA1 ga_kV (3, [some (.ref 45), some (.int l1), some (.int l2)], [], S, s, 0, 0) r := by
  intro n
  induction n with
  | zero => intro l1 l2 S s r h; cases h
  | succ n ih => intro l1 l2 S s r h; exact ga_T_S fun hS => (by
    cases hS
    exact ga_T_go (sp := ga_sp [(3, 0, 0, fun L s => match L with
      | [some (.ref 45), some (.int l1), some (.int l2)] => f_X10_append_h3 n l1 l2 s
      | _ => none)]) (ga_sp_T (List.forall_mem_cons.mpr ⟨fun L S s1 h => (by
      dsimp only at h
      split at h
      · exact ih _ _  S s1 _ h
      · cases h), fun _ h => nomatch h⟩)) (n := 600) h)
set_option maxRecDepth 100000 in
theorem t_X10_append_A1 (a : Int32) (s : ga_M) (r : ga_M) (h : f_X10_append a s = some r) : T_X10_append gaA1 ga_kV (0, [some (.ref 45), some (.int a), none], [], gaA1, s, 0, 0) r := (by
    rw [fe_X10_append] at h
    exact ga_T_go (sp := ga_sp [(3, 0, 0, fun L s => match L with
      | [some (.ref 45), some (.int l1), some (.int l2)] => f_X10_append_h3 ga_fuel l1 l2 s
      | _ => none)]) (ga_sp_T (List.forall_mem_cons.mpr ⟨fun L S s1 h => (by
      dsimp only at h
      split at h
      · exact t_X10_append_A1_h3 ga_fuel _ _  S s1 _ h
      · cases h), fun _ h => nomatch h⟩)) (n := 600) h)
set_option maxRecDepth 100000 in
theorem t_X11_appendText_A1 (a : Int32) (b : Int32) (c : Int32) (d : Int32) (e : Int32) (s : ga_M) (r : (Int32 ⊕ Nat) × ga_M) (h : f_X11_appendText a b c d e s = some r) : T_X11_appendText gaA1 ga_kIX (0, [some (.ref 0), some (.int a), some (.int b), some (.int c), some (.int d), some (.int e)], [], gaA1, s, 0, 0) r := (by
    rw [fe_X11_appendText] at h
    exact ga_T_go (sp := ga_sp []) (ga_sp_T (fun _ h => nomatch h)) (n := 600) h)
set_option maxRecDepth 100000 in
theorem t_X10_append_A2_h3 : ∀ (n : Nat) (l1 : Int32) (l2 : Int32) (S : ga_S) (s : ga_M) (r : ga_M), f_X10_append_h3 n l1 l2 s = some r → T_X10_append gaA2 ga_kV (3, [some (.ref 45), some (.int l1), some (.int l2)], [], S, s, 0, 0) r := by
  intro n
  induction n with
  | zero => intro l1 l2 S s r h; cases h
  | succ n ih => intro l1 l2 S s r h; exact ga_T_S fun hS => (by
    cases hS
    exact ga_T_go (sp := ga_sp [(3, 0, 0, fun L s => match L with
      | [some (.ref 45), some (.int l1), some (.int l2)] => f_X10_append_h3 n l1 l2 s
      | _ => none)]) (ga_sp_T (List.forall_mem_cons.mpr ⟨fun L S s1 h => (by
      dsimp only at h
      split at h
      · exact ih _ _  S s1 _ h
      · cases h), fun _ h => nomatch h⟩)) (n := 600) h)
set_option maxRecDepth 100000 in
theorem t_X10_append_A2 (a : Int32) (s : ga_M) (r : ga_M) (h : f_X10_append a s = some r) : T_X10_append gaA2 ga_kV (0, [some (.ref 45), some (.int a), none], [], gaA2, s, 0, 0) r := (by
    rw [fe_X10_append] at h
    exact ga_T_go (sp := ga_sp [(3, 0, 0, fun L s => match L with
      | [some (.ref 45), some (.int l1), some (.int l2)] => f_X10_append_h3 ga_fuel l1 l2 s
      | _ => none)]) (ga_sp_T (List.forall_mem_cons.mpr ⟨fun L S s1 h => (by
      dsimp only at h
      split at h
      · exact t_X10_append_A2_h3 ga_fuel _ _  S s1 _ h
      · cases h), fun _ h => nomatch h⟩)) (n := 600) h)
set_option maxRecDepth 100000 in
theorem t_X11_appendText_A2 (a : Int32) (b : Int32) (c : Int32) (d : Int32) (e : Int32) (s : ga_M) (r : (Int32 ⊕ Nat) × ga_M) (h : f_X11_appendText a b c d e s = some r) : T_X11_appendText gaA2 ga_kIX (0, [some (.ref 0), some (.int a), some (.int b), some (.int c), some (.int d), some (.int e)], [], gaA2, s, 0, 0) r := (by
    rw [fe_X11_appendText] at h
    exact ga_T_go (sp := ga_sp []) (ga_sp_T (fun _ h => nomatch h)) (n := 600) h)
set_option maxRecDepth 100000 in
theorem t_X10_append_A3_h3 : ∀ (n : Nat) (l1 : Int32) (l2 : Int32) (S : ga_S) (s : ga_M) (r : ga_M), f_X10_append_h3 n l1 l2 s = some r → T_X10_append gaA3 ga_kV (3, [some (.ref 45), some (.int l1), some (.int l2)], [], S, s, 0, 0) r := by
  intro n
  induction n with
  | zero => intro l1 l2 S s r h; cases h
  | succ n ih => intro l1 l2 S s r h; exact ga_T_S fun hS => (by
    cases hS
    exact ga_T_go (sp := ga_sp [(3, 0, 0, fun L s => match L with
      | [some (.ref 45), some (.int l1), some (.int l2)] => f_X10_append_h3 n l1 l2 s
      | _ => none)]) (ga_sp_T (List.forall_mem_cons.mpr ⟨fun L S s1 h => (by
      dsimp only at h
      split at h
      · exact ih _ _  S s1 _ h
      · cases h), fun _ h => nomatch h⟩)) (n := 600) h)
set_option maxRecDepth 100000 in
theorem t_X10_append_A3 (a : Int32) (s : ga_M) (r : ga_M) (h : f_X10_append a s = some r) : T_X10_append gaA3 ga_kV (0, [some (.ref 45), some (.int a), none], [], gaA3, s, 0, 0) r := (by
    rw [fe_X10_append] at h
    exact ga_T_go (sp := ga_sp [(3, 0, 0, fun L s => match L with
      | [some (.ref 45), some (.int l1), some (.int l2)] => f_X10_append_h3 ga_fuel l1 l2 s
      | _ => none)]) (ga_sp_T (List.forall_mem_cons.mpr ⟨fun L S s1 h => (by
      dsimp only at h
      split at h
      · exact t_X10_append_A3_h3 ga_fuel _ _  S s1 _ h
      · cases h), fun _ h => nomatch h⟩)) (n := 600) h)
set_option maxRecDepth 100000 in
theorem t_X11_appendText_A3 (a : Int32) (b : Int32) (c : Int32) (d : Int32) (e : Int32) (s : ga_M) (r : (Int32 ⊕ Nat) × ga_M) (h : f_X11_appendText a b c d e s = some r) : T_X11_appendText gaA3 ga_kIX (0, [some (.ref 0), some (.int a), some (.int b), some (.int c), some (.int d), some (.int e)], [], gaA3, s, 0, 0) r := (by
    rw [fe_X11_appendText] at h
    exact ga_T_go (sp := ga_sp []) (ga_sp_T (fun _ h => nomatch h)) (n := 600) h)
set_option maxRecDepth 100000 in
theorem t_X10_append_A4_h3 : ∀ (n : Nat) (l1 : Int32) (l2 : Int32) (S : ga_S) (s : ga_M) (r : ga_M), f_X10_append_h3 n l1 l2 s = some r → T_X10_append gaA4 ga_kV (3, [some (.ref 45), some (.int l1), some (.int l2)], [], S, s, 0, 0) r := by
  intro n
  induction n with
  | zero => intro l1 l2 S s r h; cases h
  | succ n ih => intro l1 l2 S s r h; exact ga_T_S fun hS => (by
    cases hS
    exact ga_T_go (sp := ga_sp [(3, 0, 0, fun L s => match L with
      | [some (.ref 45), some (.int l1), some (.int l2)] => f_X10_append_h3 n l1 l2 s
      | _ => none)]) (ga_sp_T (List.forall_mem_cons.mpr ⟨fun L S s1 h => (by
      dsimp only at h
      split at h
      · exact ih _ _  S s1 _ h
      · cases h), fun _ h => nomatch h⟩)) (n := 600) h)
set_option maxRecDepth 100000 in
theorem t_X10_append_A4 (a : Int32) (s : ga_M) (r : ga_M) (h : f_X10_append a s = some r) : T_X10_append gaA4 ga_kV (0, [some (.ref 45), some (.int a), none], [], gaA4, s, 0, 0) r := (by
    rw [fe_X10_append] at h
    exact ga_T_go (sp := ga_sp [(3, 0, 0, fun L s => match L with
      | [some (.ref 45), some (.int l1), some (.int l2)] => f_X10_append_h3 ga_fuel l1 l2 s
      | _ => none)]) (ga_sp_T (List.forall_mem_cons.mpr ⟨fun L S s1 h => (by
      dsimp only at h
      split at h
      · exact t_X10_append_A4_h3 ga_fuel _ _  S s1 _ h
      · cases h), fun _ h => nomatch h⟩)) (n := 600) h)
set_option maxRecDepth 100000 in
theorem t_X11_appendText_A4 (a : Int32) (b : Int32) (c : Int32) (d : Int32) (e : Int32) (s : ga_M) (r : (Int32 ⊕ Nat) × ga_M) (h : f_X11_appendText a b c d e s = some r) : T_X11_appendText gaA4 ga_kIX (0, [some (.ref 0), some (.int a), some (.int b), some (.int c), some (.int d), some (.int e)], [], gaA4, s, 0, 0) r := (by
    rw [fe_X11_appendText] at h
    exact ga_T_go (sp := ga_sp []) (ga_sp_T (fun _ h => nomatch h)) (n := 600) h)
set_option maxRecDepth 100000 in
theorem t_X10_append_A5_h3 : ∀ (n : Nat) (l1 : Int32) (l2 : Int32) (S : ga_S) (s : ga_M) (r : ga_M), f_X10_append_h3 n l1 l2 s = some r → T_X10_append gaA5 ga_kV (3, [some (.ref 45), some (.int l1), some (.int l2)], [], S, s, 0, 0) r := by
  intro n
  induction n with
  | zero => intro l1 l2 S s r h; cases h
  | succ n ih => intro l1 l2 S s r h; exact ga_T_S fun hS => (by
    cases hS
    exact ga_T_go (sp := ga_sp [(3, 0, 0, fun L s => match L with
      | [some (.ref 45), some (.int l1), some (.int l2)] => f_X10_append_h3 n l1 l2 s
      | _ => none)]) (ga_sp_T (List.forall_mem_cons.mpr ⟨fun L S s1 h => (by
      dsimp only at h
      split at h
      · exact ih _ _  S s1 _ h
      · cases h), fun _ h => nomatch h⟩)) (n := 600) h)
set_option maxRecDepth 100000 in
theorem t_X10_append_A5 (a : Int32) (s : ga_M) (r : ga_M) (h : f_X10_append a s = some r) : T_X10_append gaA5 ga_kV (0, [some (.ref 45), some (.int a), none], [], gaA5, s, 0, 0) r := (by
    rw [fe_X10_append] at h
    exact ga_T_go (sp := ga_sp [(3, 0, 0, fun L s => match L with
      | [some (.ref 45), some (.int l1), some (.int l2)] => f_X10_append_h3 ga_fuel l1 l2 s
      | _ => none)]) (ga_sp_T (List.forall_mem_cons.mpr ⟨fun L S s1 h => (by
      dsimp only at h
      split at h
      · exact t_X10_append_A5_h3 ga_fuel _ _  S s1 _ h
      · cases h), fun _ h => nomatch h⟩)) (n := 600) h)
set_option maxRecDepth 100000 in
theorem t_X11_appendText_A5 (a : Int32) (b : Int32) (c : Int32) (d : Int32) (e : Int32) (s : ga_M) (r : (Int32 ⊕ Nat) × ga_M) (h : f_X11_appendText a b c d e s = some r) : T_X11_appendText gaA5 ga_kIX (0, [some (.ref 0), some (.int a), some (.int b), some (.int c), some (.int d), some (.int e)], [], gaA5, s, 0, 0) r := (by
    rw [fe_X11_appendText] at h
    exact ga_T_go (sp := ga_sp []) (ga_sp_T (fun _ h => nomatch h)) (n := 600) h)
set_option maxRecDepth 100000 in
theorem t_X10_append_A6_h3 : ∀ (n : Nat) (l1 : Int32) (l2 : Int32) (S : ga_S) (s : ga_M) (r : ga_M), f_X10_append_h3 n l1 l2 s = some r → T_X10_append gaA6 ga_kV (3, [some (.ref 45), some (.int l1), some (.int l2)], [], S, s, 0, 0) r := by
  intro n
  induction n with
  | zero => intro l1 l2 S s r h; cases h
  | succ n ih => intro l1 l2 S s r h; exact ga_T_S fun hS => (by
    cases hS
    exact ga_T_go (sp := ga_sp [(3, 0, 0, fun L s => match L with
      | [some (.ref 45), some (.int l1), some (.int l2)] => f_X10_append_h3 n l1 l2 s
      | _ => none)]) (ga_sp_T (List.forall_mem_cons.mpr ⟨fun L S s1 h => (by
      dsimp only at h
      split at h
      · exact ih _ _  S s1 _ h
      · cases h), fun _ h => nomatch h⟩)) (n := 600) h)
set_option maxRecDepth 100000 in
theorem t_X10_append_A6 (a : Int32) (s : ga_M) (r : ga_M) (h : f_X10_append a s = some r) : T_X10_append gaA6 ga_kV (0, [some (.ref 45), some (.int a), none], [], gaA6, s, 0, 0) r := (by
    rw [fe_X10_append] at h
    exact ga_T_go (sp := ga_sp [(3, 0, 0, fun L s => match L with
      | [some (.ref 45), some (.int l1), some (.int l2)] => f_X10_append_h3 ga_fuel l1 l2 s
      | _ => none)]) (ga_sp_T (List.forall_mem_cons.mpr ⟨fun L S s1 h => (by
      dsimp only at h
      split at h
      · exact t_X10_append_A6_h3 ga_fuel _ _  S s1 _ h
      · cases h), fun _ h => nomatch h⟩)) (n := 600) h)
set_option maxRecDepth 100000 in
theorem t_X11_appendText_A6 (a : Int32) (b : Int32) (c : Int32) (d : Int32) (e : Int32) (s : ga_M) (r : (Int32 ⊕ Nat) × ga_M) (h : f_X11_appendText a b c d e s = some r) : T_X11_appendText gaA6 ga_kIX (0, [some (.ref 0), some (.int a), some (.int b), some (.int c), some (.int d), some (.int e)], [], gaA6, s, 0, 0) r := (by
    rw [fe_X11_appendText] at h
    exact ga_T_go (sp := ga_sp []) (ga_sp_T (fun _ h => nomatch h)) (n := 600) h)
set_option maxRecDepth 100000 in
theorem t_X10_append_A7_h3 : ∀ (n : Nat) (l1 : Int32) (l2 : Int32) (S : ga_S) (s : ga_M) (r : ga_M), f_X10_append_h3 n l1 l2 s = some r → T_X10_append gaA7 ga_kV (3, [some (.ref 45), some (.int l1), some (.int l2)], [], S, s, 0, 0) r := by
  intro n
  induction n with
  | zero => intro l1 l2 S s r h; cases h
  | succ n ih => intro l1 l2 S s r h; exact ga_T_S fun hS => (by
    cases hS
    exact ga_T_go (sp := ga_sp [(3, 0, 0, fun L s => match L with
      | [some (.ref 45), some (.int l1), some (.int l2)] => f_X10_append_h3 n l1 l2 s
      | _ => none)]) (ga_sp_T (List.forall_mem_cons.mpr ⟨fun L S s1 h => (by
      dsimp only at h
      split at h
      · exact ih _ _  S s1 _ h
      · cases h), fun _ h => nomatch h⟩)) (n := 600) h)
set_option maxRecDepth 100000 in
theorem t_X10_append_A7 (a : Int32) (s : ga_M) (r : ga_M) (h : f_X10_append a s = some r) : T_X10_append gaA7 ga_kV (0, [some (.ref 45), some (.int a), none], [], gaA7, s, 0, 0) r := (by
    rw [fe_X10_append] at h
    exact ga_T_go (sp := ga_sp [(3, 0, 0, fun L s => match L with
      | [some (.ref 45), some (.int l1), some (.int l2)] => f_X10_append_h3 ga_fuel l1 l2 s
      | _ => none)]) (ga_sp_T (List.forall_mem_cons.mpr ⟨fun L S s1 h => (by
      dsimp only at h
      split at h
      · exact t_X10_append_A7_h3 ga_fuel _ _  S s1 _ h
      · cases h), fun _ h => nomatch h⟩)) (n := 600) h)
set_option maxRecDepth 100000 in
theorem t_X11_appendText_A7 (a : Int32) (b : Int32) (c : Int32) (d : Int32) (e : Int32) (s : ga_M) (r : (Int32 ⊕ Nat) × ga_M) (h : f_X11_appendText a b c d e s = some r) : T_X11_appendText gaA7 ga_kIX (0, [some (.ref 0), some (.int a), some (.int b), some (.int c), some (.int d), some (.int e)], [], gaA7, s, 0, 0) r := (by
    rw [fe_X11_appendText] at h
    exact ga_T_go (sp := ga_sp []) (ga_sp_T (fun _ h => nomatch h)) (n := 600) h)
set_option maxRecDepth 100000 in
theorem t_X10_append_A8_h3 : ∀ (n : Nat) (l1 : Int32) (l2 : Int32) (S : ga_S) (s : ga_M) (r : ga_M), f_X10_append_h3 n l1 l2 s = some r → T_X10_append gaA8 ga_kV (3, [some (.ref 45), some (.int l1), some (.int l2)], [], S, s, 0, 0) r := by
  intro n
  induction n with
  | zero => intro l1 l2 S s r h; cases h
  | succ n ih => intro l1 l2 S s r h; exact ga_T_S fun hS => (by
    cases hS
    exact ga_T_go (sp := ga_sp [(3, 0, 0, fun L s => match L with
      | [some (.ref 45), some (.int l1), some (.int l2)] => f_X10_append_h3 n l1 l2 s
      | _ => none)]) (ga_sp_T (List.forall_mem_cons.mpr ⟨fun L S s1 h => (by
      dsimp only at h
      split at h
      · exact ih _ _  S s1 _ h
      · cases h), fun _ h => nomatch h⟩)) (n := 600) h)
set_option maxRecDepth 100000 in
theorem t_X10_append_A8 (a : Int32) (s : ga_M) (r : ga_M) (h : f_X10_append a s = some r) : T_X10_append gaA8 ga_kV (0, [some (.ref 45), some (.int a), none], [], gaA8, s, 0, 0) r := (by
    rw [fe_X10_append] at h
    exact ga_T_go (sp := ga_sp [(3, 0, 0, fun L s => match L with
      | [some (.ref 45), some (.int l1), some (.int l2)] => f_X10_append_h3 ga_fuel l1 l2 s
      | _ => none)]) (ga_sp_T (List.forall_mem_cons.mpr ⟨fun L S s1 h => (by
      dsimp only at h
      split at h
      · exact t_X10_append_A8_h3 ga_fuel _ _  S s1 _ h
      · cases h), fun _ h => nomatch h⟩)) (n := 600) h)
set_option maxRecDepth 100000 in
theorem t_X11_appendText_A8 (a : Int32) (b : Int32) (c : Int32) (d : Int32) (e : Int32) (s : ga_M) (r : (Int32 ⊕ Nat) × ga_M) (h : f_X11_appendText a b c d e s = some r) : T_X11_appendText gaA8 ga_kIX (0, [some (.ref 0), some (.int a), some (.int b), some (.int c), some (.int d), some (.int e)], [], gaA8, s, 0, 0) r := (by
    rw [fe_X11_appendText] at h
    exact ga_T_go (sp := ga_sp []) (ga_sp_T (fun _ h => nomatch h)) (n := 600) h)
set_option maxRecDepth 100000 in
theorem t_X10_append_A9_h3 : ∀ (n : Nat) (l1 : Int32) (l2 : Int32) (S : ga_S) (s : ga_M) (r : ga_M), f_X10_append_h3 n l1 l2 s = some r → T_X10_append gaA9 ga_kV (3, [some (.ref 45), some (.int l1), some (.int l2)], [], S, s, 0, 0) r := by
  intro n
  induction n with
  | zero => intro l1 l2 S s r h; cases h
  | succ n ih => intro l1 l2 S s r h; exact ga_T_S fun hS => (by
    cases hS
    exact ga_T_go (sp := ga_sp [(3, 0, 0, fun L s => match L with
      | [some (.ref 45), some (.int l1), some (.int l2)] => f_X10_append_h3 n l1 l2 s
      | _ => none)]) (ga_sp_T (List.forall_mem_cons.mpr ⟨fun L S s1 h => (by
      dsimp only at h
      split at h
      · exact ih _ _  S s1 _ h
      · cases h), fun _ h => nomatch h⟩)) (n := 600) h)
set_option maxRecDepth 100000 in
theorem t_X10_append_A9 (a : Int32) (s : ga_M) (r : ga_M) (h : f_X10_append a s = some r) : T_X10_append gaA9 ga_kV (0, [some (.ref 45), some (.int a), none], [], gaA9, s, 0, 0) r := (by
    rw [fe_X10_append] at h
    exact ga_T_go (sp := ga_sp [(3, 0, 0, fun L s => match L with
      | [some (.ref 45), some (.int l1), some (.int l2)] => f_X10_append_h3 ga_fuel l1 l2 s
      | _ => none)]) (ga_sp_T (List.forall_mem_cons.mpr ⟨fun L S s1 h => (by
      dsimp only at h
      split at h
      · exact t_X10_append_A9_h3 ga_fuel _ _  S s1 _ h
      · cases h), fun _ h => nomatch h⟩)) (n := 600) h)
set_option maxRecDepth 100000 in
theorem t_X11_appendText_A9 (a : Int32) (b : Int32) (c : Int32) (d : Int32) (e : Int32) (s : ga_M) (r : (Int32 ⊕ Nat) × ga_M) (h : f_X11_appendText a b c d e s = some r) : T_X11_appendText gaA9 ga_kIX (0, [some (.ref 0), some (.int a), some (.int b), some (.int c), some (.int d), some (.int e)], [], gaA9, s, 0, 0) r := (by
    rw [fe_X11_appendText] at h
    exact ga_T_go (sp := ga_sp []) (ga_sp_T (fun _ h => nomatch h)) (n := 600) h)
set_option maxRecDepth 100000 in
theorem t_X10_append_A10_h3 : ∀ (n : Nat) (l1 : Int32) (l2 : Int32) (S : ga_S) (s : ga_M) (r : ga_M), f_X10_append_h3 n l1 l2 s = some r → T_X10_append gaA10 ga_kV (3, [some (.ref 45), some (.int l1), some (.int l2)], [], S, s, 0, 0) r := by
  intro n
  induction n with
  | zero => intro l1 l2 S s r h; cases h
  | succ n ih => intro l1 l2 S s r h; exact ga_T_S fun hS => (by
    cases hS
    exact ga_T_go (sp := ga_sp [(3, 0, 0, fun L s => match L with
      | [some (.ref 45), some (.int l1), some (.int l2)] => f_X10_append_h3 n l1 l2 s
      | _ => none)]) (ga_sp_T (List.forall_mem_cons.mpr ⟨fun L S s1 h => (by
      dsimp only at h
      split at h
      · exact ih _ _  S s1 _ h
      · cases h), fun _ h => nomatch h⟩)) (n := 600) h)
set_option maxRecDepth 100000 in
theorem t_X10_append_A10 (a : Int32) (s : ga_M) (r : ga_M) (h : f_X10_append a s = some r) : T_X10_append gaA10 ga_kV (0, [some (.ref 45), some (.int a), none], [], gaA10, s, 0, 0) r := (by
    rw [fe_X10_append] at h
    exact ga_T_go (sp := ga_sp [(3, 0, 0, fun L s => match L with
      | [some (.ref 45), some (.int l1), some (.int l2)] => f_X10_append_h3 ga_fuel l1 l2 s
      | _ => none)]) (ga_sp_T (List.forall_mem_cons.mpr ⟨fun L S s1 h => (by
      dsimp only at h
      split at h
      · exact t_X10_append_A10_h3 ga_fuel _ _  S s1 _ h
      · cases h), fun _ h => nomatch h⟩)) (n := 600) h)
set_option maxRecDepth 100000 in
theorem t_X11_appendText_A10 (a : Int32) (b : Int32) (c : Int32) (d : Int32) (e : Int32) (s : ga_M) (r : (Int32 ⊕ Nat) × ga_M) (h : f_X11_appendText a b c d e s = some r) : T_X11_appendText gaA10 ga_kIX (0, [some (.ref 0), some (.int a), some (.int b), some (.int c), some (.int d), some (.int e)], [], gaA10, s, 0, 0) r := (by
    rw [fe_X11_appendText] at h
    exact ga_T_go (sp := ga_sp []) (ga_sp_T (fun _ h => nomatch h)) (n := 600) h)
set_option maxRecDepth 100000 in
theorem t_X10_append_A11_h3 : ∀ (n : Nat) (l1 : Int32) (l2 : Int32) (S : ga_S) (s : ga_M) (r : ga_M), f_X10_append_h3 n l1 l2 s = some r → T_X10_append gaA11 ga_kV (3, [some (.ref 45), some (.int l1), some (.int l2)], [], S, s, 0, 0) r := by
  intro n
  induction n with
  | zero => intro l1 l2 S s r h; cases h
  | succ n ih => intro l1 l2 S s r h; exact ga_T_S fun hS => (by
    cases hS
    exact ga_T_go (sp := ga_sp [(3, 0, 0, fun L s => match L with
      | [some (.ref 45), some (.int l1), some (.int l2)] => f_X10_append_h3 n l1 l2 s
      | _ => none)]) (ga_sp_T (List.forall_mem_cons.mpr ⟨fun L S s1 h => (by
      dsimp only at h
      split at h
      · exact ih _ _  S s1 _ h
      · cases h), fun _ h => nomatch h⟩)) (n := 600) h)
set_option maxRecDepth 100000 in
theorem t_X10_append_A11 (a : Int32) (s : ga_M) (r : ga_M) (h : f_X10_append a s = some r) : T_X10_append gaA11 ga_kV (0, [some (.ref 45), some (.int a), none], [], gaA11, s, 0, 0) r := (by
    rw [fe_X10_append] at h
    exact ga_T_go (sp := ga_sp [(3, 0, 0, fun L s => match L with
      | [some (.ref 45), some (.int l1), some (.int l2)] => f_X10_append_h3 ga_fuel l1 l2 s
      | _ => none)]) (ga_sp_T (List.forall_mem_cons.mpr ⟨fun L S s1 h => (by
      dsimp only at h
      split at h
      · exact t_X10_append_A11_h3 ga_fuel _ _  S s1 _ h
      · cases h), fun _ h => nomatch h⟩)) (n := 600) h)
set_option maxRecDepth 100000 in
theorem t_X11_appendText_A11 (a : Int32) (b : Int32) (c : Int32) (d : Int32) (e : Int32) (s : ga_M) (r : (Int32 ⊕ Nat) × ga_M) (h : f_X11_appendText a b c d e s = some r) : T_X11_appendText gaA11 ga_kIX (0, [some (.ref 0), some (.int a), some (.int b), some (.int c), some (.int d), some (.int e)], [], gaA11, s, 0, 0) r := (by
    rw [fe_X11_appendText] at h
    exact ga_T_go (sp := ga_sp []) (ga_sp_T (fun _ h => nomatch h)) (n := 600) h)
theorem gx_sA1 : gx_sm gaA1 := gx_sm_of (by decide +kernel)
theorem gx_sA2 : gx_sm gaA2 := gx_sm_of (by decide +kernel)
theorem gx_sA3 : gx_sm gaA3 := gx_sm_of (by decide +kernel)
theorem gx_sA4 : gx_sm gaA4 := gx_sm_of (by decide +kernel)
theorem gx_sA5 : gx_sm gaA5 := gx_sm_of (by decide +kernel)
theorem gx_sA6 : gx_sm gaA6 := gx_sm_of (by decide +kernel)
theorem gx_sA7 : gx_sm gaA7 := gx_sm_of (by decide +kernel)
theorem gx_sA8 : gx_sm gaA8 := gx_sm_of (by decide +kernel)
theorem gx_sA9 : gx_sm gaA9 := gx_sm_of (by decide +kernel)
theorem gx_sA10 : gx_sm gaA10 := gx_sm_of (by decide +kernel)
theorem gx_sA11 : gx_sm gaA11 := gx_sm_of (by decide +kernel)
section GP0
variable {l : Launch} {D : va_G} {cA : Nat → ClassId} {ad : Nat → Nat} {A : Nat → Prop} {adV : Nat → Nat}
def gp_MM (l : Launch) (D : va_G) (cA : Nat → ClassId) (ad : Nat → Nat) (A : Nat → Prop) (adV : Nat → Nat) (g : ga_G) (S0 : ga_S) (mid : Nat) : Prop := gb_Tb mid ∧ gc_St mid ∧ gc_M l D cA ad A adV g S0 mid
theorem gp_metG {α : Type} {g : ga_G} {S0 : ga_S} {y : MethodName} {own : String} {cc : ByteArray} {cl : List (Nat × ga_E)} {maxL lev mc ms : Nat} {ret : Option FieldType} {lf : Bool} {K0 : ga_O → Option α} {as : List Value} {σ : ga_M} {r : α} {o : ga_O}
    {fl : List (Nat × Nat × Nat)} {sl : List (Nat × Nat)} {nl ll : List (Nat × Int32)} {tl : List (Nat × Nat × Nat)} {lk lkn : List (Nat × Nat)} {mids : List Nat} (hgG : ∀ mid as S σ o, g ga_O mid as S σ some = some o → gaG ga_O mid as S σ some = some o) (hd : ∀ as S σ, g ga_O 398 as S σ some = none) (hd2 : ∀ as S σ, g ga_O 399 as S σ some = none) (hge : ∀ mid as S s, ge_N (fun o => o.2.1 = S) (fun α K => g α mid as S s K))
    (hl : l.stackTraces = false) (hy : plainName own = true) (hyo : y.cls = own) (hown : gb_Own own fl sl nl ll tl) (hck : cl.all (gb_rk fl sl nl ll tl cc) = true) (hn : gb_Ln own lk lkn) (hM : ∀ mid ∈ mids, gp_MM l D cA ad A adV g S0 mid) (hcl : cl.all (gc_ck lk lkn mids lev) = true)
    (hT : ga_T own cc (ga_lk cl) g gaCost (fun _ => []) gaCls 84 mc ms false lf true none (fun S _ => S = S0) K0 (0, gb_L0 as maxL, [], S0, σ, 0, 0) r)
    (ho : ∀ o', K0 o' = some r → o'.2.1 = S0 → o' = o) (ho2 : ∀ E, o.1 ≠ .inr E) (hrt : ∀ v, o.1 = .inl v → gb_rt ret v) (hnl : (gb_fl as).length ≤ maxL) (hlf : (!lf || as.all fun v => v.category == 1) = true) (hlev : cl.all (gb_lvk lev) = true := by decide +kernel) :
    gb_C l D cA ad A adV y (gb_ws y cc maxL ret) lev mc ms as S0 σ o :=
  gb_met (g := g) (cost := gaCost) (wr := true) (PS := fun S _ => S = S0) hl (hyo ▸ hy) hyo hown hck
    (gc_hlk hn hM hgG hd hd2 (fun _ _ h => h) hcl) hT rfl (fun _ _ _ _ h => h) (fun mid as S σ o h hg => (ge_at (hge mid as S σ) hg).trans h)
    (fun α mid as S σ k o h => (hge mid as S σ α k o h).elim fun o1 h1 => ⟨o1, h1.2⟩) ho (fun E hE => absurd hE (ho2 E)) hrt hnl hlf hlev
theorem gp_metP {α : Type} {S0 : ga_S} {y : MethodName} {own : String} {cc : ByteArray} {cl : List (Nat × ga_E)} {maxL lev mc ms : Nat} {ret : Option FieldType} {lf : Bool} {K0 : ga_O → Option α} {as : List Value} {σ : ga_M} {r : α} {o : ga_O}
    {fl : List (Nat × Nat × Nat)} {sl : List (Nat × Nat)} {nl ll : List (Nat × Int32)} {tl : List (Nat × Nat × Nat)} {lk lkn : List (Nat × Nat)} {mids : List Nat}
    (hl : l.stackTraces = false) (hy : plainName own = true) (hyo : y.cls = own) (hown : gb_Own own fl sl nl ll tl) (hck : cl.all (gb_rk fl sl nl ll tl cc) = true) (hn : gb_Ln own lk lkn) (hM : ∀ mid ∈ mids, gp_MM l D cA ad A adV gaG S0 mid) (hcl : cl.all (gc_ck lk lkn mids lev) = true)
    (hT : ga_T own cc (ga_lk cl) gaGP gaCost (fun _ => []) gaCls 84 mc ms false lf false none (fun S σ' => S = S0 ∧ σ' = σ) K0 (0, gb_L0 as maxL, [], S0, σ, 0, 0) r)
    (ho : ∀ o', K0 o' = some r → o'.2.1 = S0 ∧ o'.2.2 = σ → o' = o) (ho2 : ∀ E, o.1 ≠ .inr E) (hrt : ∀ v, o.1 = .inl v → gb_rt ret v) (hnl : (gb_fl as).length ≤ maxL) (hlf : (!lf || as.all fun v => v.category == 1) = true) (hlev : cl.all (gb_lvk lev) = true := by decide +kernel) :
    gb_C l D cA ad A adV y (gb_ws y cc maxL ret) lev mc ms as S0 σ o :=
  gb_met (g := gaGP) (cost := gaCost) (wr := false) (PS := fun S σ' => S = S0 ∧ σ' = σ) hl (hyo ▸ hy) hyo hown hck
    (gc_hlk hn (fun mid hm => ⟨(hM mid hm).1, (hM mid hm).2.1, fun as σ o hg => (hM mid hm).2.2 as σ o (gf_GP _ _ _ _ o hg)⟩) (fun _ _ _ _ o h => gf_GP _ _ _ _ o h) gf_398P gf_399P (fun _ _ h => h.1) hcl) hT ⟨rfl, rfl⟩ (fun h => nomatch h)
    (fun mid as S σ o h hg => ⟨(ge_at (ge_GP mid as S σ) hg).1.trans h.1, (ge_at (ge_GP mid as S σ) hg).2.trans h.2⟩)
    (fun α mid as S σ k o h => (ge_GP mid as S σ α k o h).elim fun o1 h1 => ⟨o1, h1.2⟩) ho (fun E hE => absurd hE (ho2 E)) hrt hnl hlf hlev
theorem gg1_X7_becomeEmpty (as : List Value) (S : ga_S) (s : ga_M) (o : ga_O) (h : c1_X7_becomeEmpty as S s some = some o) : c_X7_becomeEmpty as S s some = some o := by
  unfold c1_X7_becomeEmpty at h
  split at h
  · rename_i r0
    obtain ⟨hb, h⟩ := gc_bif h
    obtain rfl := Nat.eq_of_beq_eq_true hb
    exact h
  · cases h
theorem gg1_X7_addSubject (as : List Value) (S : ga_S) (s : ga_M) (o : ga_O) (h : c1_X7_addSubject as S s some = some o) : c_X7_addSubject as S s some = some o := by
  unfold c1_X7_addSubject at h
  split at h
  · rename_i r0 a
    obtain ⟨hb, h⟩ := gc_bif h
    obtain rfl := Nat.eq_of_beq_eq_true hb
    exact h
  · cases h
theorem gg1_X7_addTeacher (as : List Value) (S : ga_S) (s : ga_M) (o : ga_O) (h : c1_X7_addTeacher as S s some = some o) : c_X7_addTeacher as S s some = some o := by
  unfold c1_X7_addTeacher at h
  split at h
  · rename_i r0 a b
    obtain ⟨hb, h⟩ := gc_bif h
    obtain rfl := Nat.eq_of_beq_eq_true hb
    exact h
  · cases h
theorem gg1_X7_addRoom (as : List Value) (S : ga_S) (s : ga_M) (o : ga_O) (h : c1_X7_addRoom as S s some = some o) : c_X7_addRoom as S s some = some o := by
  unfold c1_X7_addRoom at h
  split at h
  · rename_i r0 a
    obtain ⟨hb, h⟩ := gc_bif h
    obtain rfl := Nat.eq_of_beq_eq_true hb
    exact h
  · cases h
theorem gg1_X7_addLesson (as : List Value) (S : ga_S) (s : ga_M) (o : ga_O) (h : c1_X7_addLesson as S s some = some o) : c_X7_addLesson as S s some = some o := by
  unfold c1_X7_addLesson at h
  split at h
  · rename_i r0 a b c d e
    obtain ⟨hb, h⟩ := gc_bif h
    obtain rfl := Nat.eq_of_beq_eq_true hb
    exact h
  · cases h
theorem gg1_X7_becomeSample (as : List Value) (S : ga_S) (s : ga_M) (o : ga_O) (h : c1_X7_becomeSample as S s some = some o) : c_X7_becomeSample as S s some = some o := by
  unfold c1_X7_becomeSample at h
  split at h
  · rename_i r0
    obtain ⟨hb, h⟩ := gc_bif h
    obtain rfl := Nat.eq_of_beq_eq_true hb
    exact h
  · cases h
theorem gp_G1G : ∀ mid as S σ o, gaG1 ga_O mid as S σ some = some o → gaG ga_O mid as S σ some = some o := by
  intro mid as S σ o h
  unfold gaG1 at h
  rcases gc_bif2 h with ⟨hb, k9⟩ | h1
  · have e9 := Nat.eq_of_beq_eq_true hb
    subst e9
    exact k9
  rcases gc_bif2 h1 with ⟨hb, k9⟩ | h2
  · have e9 := Nat.eq_of_beq_eq_true hb
    subst e9
    exact gg1_X7_becomeEmpty _ _ _ _ k9
  rcases gc_bif2 h2 with ⟨hb, k9⟩ | h3
  · have e9 := Nat.eq_of_beq_eq_true hb
    subst e9
    exact gg1_X7_addSubject _ _ _ _ k9
  rcases gc_bif2 h3 with ⟨hb, k9⟩ | h4
  · have e9 := Nat.eq_of_beq_eq_true hb
    subst e9
    exact gg1_X7_addTeacher _ _ _ _ k9
  rcases gc_bif2 h4 with ⟨hb, k9⟩ | h5
  · have e9 := Nat.eq_of_beq_eq_true hb
    subst e9
    exact gg1_X7_addRoom _ _ _ _ k9
  rcases gc_bif2 h5 with ⟨hb, k9⟩ | h6
  · have e9 := Nat.eq_of_beq_eq_true hb
    subst e9
    exact gg1_X7_addLesson _ _ _ _ k9
  rcases gc_bif2 h6 with ⟨hb, k9⟩ | h7
  · have e9 := Nat.eq_of_beq_eq_true hb
    subst e9
    exact gg1_X7_becomeSample _ _ _ _ k9
  cases h7
theorem gp_398 : ∀ as S σ, gaG1 ga_O 398 as S σ some = none := fun _ _ _ => rfl
theorem gp_399 : ∀ as S σ, gaG1 ga_O 399 as S σ some = none := fun _ _ _ => rfl
theorem gp1_2 (hl : l.stackTraces = false) : gp_MM l D cA ad A adV gaG1 gaS1 2 := ⟨gb_T2, fun h => absurd h (by decide +kernel), fun as σ o hg => gx_put hl gx_s1 hg⟩
theorem gp2_1 (hl : l.stackTraces = false) : gp_MM l D cA ad A adV gaG gaS2 1 := ⟨gb_T1, fun h => absurd h (by decide +kernel), fun as σ o hg => gx_at hl gx_s2 hg⟩
theorem gp2_2 (hl : l.stackTraces = false) : gp_MM l D cA ad A adV gaG gaS2 2 := ⟨gb_T2, fun h => absurd h (by decide +kernel), fun as σ o hg => gx_put hl gx_s2 hg⟩
theorem gpA1_2 (hl : l.stackTraces = false) : gp_MM l D cA ad A adV gaG gaA1 2 := ⟨gb_T2, fun h => absurd h (by decide +kernel), fun as σ o hg => gx_put hl gx_sA1 hg⟩
theorem gpA2_2 (hl : l.stackTraces = false) : gp_MM l D cA ad A adV gaG gaA2 2 := ⟨gb_T2, fun h => absurd h (by decide +kernel), fun as σ o hg => gx_put hl gx_sA2 hg⟩
theorem gpA3_2 (hl : l.stackTraces = false) : gp_MM l D cA ad A adV gaG gaA3 2 := ⟨gb_T2, fun h => absurd h (by decide +kernel), fun as σ o hg => gx_put hl gx_sA3 hg⟩
theorem gpA4_2 (hl : l.stackTraces = false) : gp_MM l D cA ad A adV gaG gaA4 2 := ⟨gb_T2, fun h => absurd h (by decide +kernel), fun as σ o hg => gx_put hl gx_sA4 hg⟩
theorem gpA5_2 (hl : l.stackTraces = false) : gp_MM l D cA ad A adV gaG gaA5 2 := ⟨gb_T2, fun h => absurd h (by decide +kernel), fun as σ o hg => gx_put hl gx_sA5 hg⟩
theorem gpA6_2 (hl : l.stackTraces = false) : gp_MM l D cA ad A adV gaG gaA6 2 := ⟨gb_T2, fun h => absurd h (by decide +kernel), fun as σ o hg => gx_put hl gx_sA6 hg⟩
theorem gpA7_2 (hl : l.stackTraces = false) : gp_MM l D cA ad A adV gaG gaA7 2 := ⟨gb_T2, fun h => absurd h (by decide +kernel), fun as σ o hg => gx_put hl gx_sA7 hg⟩
theorem gpA8_2 (hl : l.stackTraces = false) : gp_MM l D cA ad A adV gaG gaA8 2 := ⟨gb_T2, fun h => absurd h (by decide +kernel), fun as σ o hg => gx_put hl gx_sA8 hg⟩
theorem gpA9_2 (hl : l.stackTraces = false) : gp_MM l D cA ad A adV gaG gaA9 2 := ⟨gb_T2, fun h => absurd h (by decide +kernel), fun as σ o hg => gx_put hl gx_sA9 hg⟩
theorem gpA10_2 (hl : l.stackTraces = false) : gp_MM l D cA ad A adV gaG gaA10 2 := ⟨gb_T2, fun h => absurd h (by decide +kernel), fun as σ o hg => gx_put hl gx_sA10 hg⟩
theorem gpA11_2 (hl : l.stackTraces = false) : gp_MM l D cA ad A adV gaG gaA11 2 := ⟨gb_T2, fun h => absurd h (by decide +kernel), fun as σ o hg => gx_put hl gx_sA11 hg⟩
theorem gp1_7 (hl : l.stackTraces = false) : gp_MM l D cA ad A adV gaG1 gaS1 7 := by
  refine ⟨gb_T7, fun h => absurd h (by decide +kernel), fun as σ o hg => ?_⟩
  have hM : ∀ mid ∈ ([] : List Nat), gp_MM l D cA ad A adV gaG1 gaS1 mid := (fun _ h => nomatch h)
  replace hg : c1_X7_becomeEmpty as gaS1 σ some = some o := hg
  unfold c1_X7_becomeEmpty at hg
  split at hg
  · rename_i r0
    obtain ⟨hb, hg⟩ := gc_bif hg
    obtain rfl := Nat.eq_of_beq_eq_true hb
    obtain rfl := Option.some.inj hg
    exact gp_metG (g := gaG1) (maxL := 1) (lf := true) gp_G1G gp_398 gp_399 ge_G1 hl gc_pnX7 rfl gb_oX7 gc_rk_X7_becomeEmpty gb_nX7 hM gc_ck_X7_becomeEmpty (t_X7_becomeEmpty_S1 σ _ (e_X7_becomeEmpty σ)) gc_hoV (fun _ h => nomatch h) (fun v hv => by cases hv; rfl) (Nat.le_of_ble_eq_true rfl) rfl
  · cases hg
theorem gp1_24 (hl : l.stackTraces = false) : gp_MM l D cA ad A adV gaG1 gaS1 24 := by
  refine ⟨gb_T24, fun h => absurd h (by decide +kernel), fun as σ o hg => ?_⟩
  have hM : ∀ mid ∈ ([2] : List Nat), gp_MM l D cA ad A adV gaG1 gaS1 mid := (List.forall_mem_cons.mpr ⟨gp1_2 hl, fun _ h => nomatch h⟩)
  replace hg : c1_X7_addSubject as gaS1 σ some = some o := hg
  unfold c1_X7_addSubject at hg
  split at hg
  · rename_i r0 a
    obtain ⟨hb, hg⟩ := gc_bif hg
    obtain rfl := Nat.eq_of_beq_eq_true hb
    obtain rfl := Option.some.inj hg
    exact gp_metG (g := gaG1) (maxL := 2) (lf := true) gp_G1G gp_398 gp_399 ge_G1 hl gc_pnX7 rfl gb_oX7 gc_rk_X7_addSubject gb_nX7 hM gc_ck_X7_addSubject (t_X7_addSubject_S1 a σ _ (e_X7_addSubject a σ)) gc_hoV (fun _ h => nomatch h) (fun v hv => by cases hv; rfl) (Nat.le_of_ble_eq_true rfl) rfl
  · cases hg
theorem gp1_26 (hl : l.stackTraces = false) : gp_MM l D cA ad A adV gaG1 gaS1 26 := by
  refine ⟨gb_T26, fun h => absurd h (by decide +kernel), fun as σ o hg => ?_⟩
  have hM : ∀ mid ∈ ([2] : List Nat), gp_MM l D cA ad A adV gaG1 gaS1 mid := (List.forall_mem_cons.mpr ⟨gp1_2 hl, fun _ h => nomatch h⟩)
  replace hg : c1_X7_addTeacher as gaS1 σ some = some o := hg
  unfold c1_X7_addTeacher at hg
  split at hg
  · rename_i r0 a b
    obtain ⟨hb, hg⟩ := gc_bif hg
    obtain rfl := Nat.eq_of_beq_eq_true hb
    obtain rfl := Option.some.inj hg
    exact gp_metG (g := gaG1) (maxL := 3) (lf := true) gp_G1G gp_398 gp_399 ge_G1 hl gc_pnX7 rfl gb_oX7 gc_rk_X7_addTeacher gb_nX7 hM gc_ck_X7_addTeacher (t_X7_addTeacher_S1 a b σ _ (e_X7_addTeacher a b σ)) gc_hoV (fun _ h => nomatch h) (fun v hv => by cases hv; rfl) (Nat.le_of_ble_eq_true rfl) rfl
  · cases hg
theorem gp1_30 (hl : l.stackTraces = false) : gp_MM l D cA ad A adV gaG1 gaS1 30 := by
  refine ⟨gb_T30, fun h => absurd h (by decide +kernel), fun as σ o hg => ?_⟩
  have hM : ∀ mid ∈ ([2] : List Nat), gp_MM l D cA ad A adV gaG1 gaS1 mid := (List.forall_mem_cons.mpr ⟨gp1_2 hl, fun _ h => nomatch h⟩)
  replace hg : c1_X7_addRoom as gaS1 σ some = some o := hg
  unfold c1_X7_addRoom at hg
  split at hg
  · rename_i r0 a
    obtain ⟨hb, hg⟩ := gc_bif hg
    obtain rfl := Nat.eq_of_beq_eq_true hb
    obtain rfl := Option.some.inj hg
    exact gp_metG (g := gaG1) (maxL := 2) (lf := true) gp_G1G gp_398 gp_399 ge_G1 hl gc_pnX7 rfl gb_oX7 gc_rk_X7_addRoom gb_nX7 hM gc_ck_X7_addRoom (t_X7_addRoom_S1 a σ _ (e_X7_addRoom a σ)) gc_hoV (fun _ h => nomatch h) (fun v hv => by cases hv; rfl) (Nat.le_of_ble_eq_true rfl) rfl
  · cases hg
theorem gp1_38 (hl : l.stackTraces = false) : gp_MM l D cA ad A adV gaG1 gaS1 38 := by
  refine ⟨gb_T38, fun h => absurd h (by decide +kernel), fun as σ o hg => ?_⟩
  have hM : ∀ mid ∈ ([2] : List Nat), gp_MM l D cA ad A adV gaG1 gaS1 mid := (List.forall_mem_cons.mpr ⟨gp1_2 hl, fun _ h => nomatch h⟩)
  replace hg : c1_X7_addLesson as gaS1 σ some = some o := hg
  unfold c1_X7_addLesson at hg
  split at hg
  · rename_i r0 a b c d e
    obtain ⟨hb, hg⟩ := gc_bif hg
    obtain rfl := Nat.eq_of_beq_eq_true hb
    obtain rfl := Option.some.inj hg
    exact gp_metG (g := gaG1) (maxL := 6) (lf := true) gp_G1G gp_398 gp_399 ge_G1 hl gc_pnX7 rfl gb_oX7 gc_rk_X7_addLesson gb_nX7 hM gc_ck_X7_addLesson (t_X7_addLesson_S1 a b c d e σ _ (e_X7_addLesson a b c d e σ)) gc_hoV (fun _ h => nomatch h) (fun v hv => by cases hv; rfl) (Nat.le_of_ble_eq_true rfl) rfl
  · cases hg
theorem gp1_112 (hl : l.stackTraces = false) : gp_MM l D cA ad A adV gaG1 gaS1 112 := by
  refine ⟨gb_T112, fun h => absurd h (by decide +kernel), fun as σ o hg => ?_⟩
  have hM : ∀ mid ∈ ([7, 24, 26, 30, 38] : List Nat), gp_MM l D cA ad A adV gaG1 gaS1 mid := (List.forall_mem_cons.mpr ⟨gp1_7 hl, List.forall_mem_cons.mpr ⟨gp1_24 hl, List.forall_mem_cons.mpr ⟨gp1_26 hl, List.forall_mem_cons.mpr ⟨gp1_30 hl, List.forall_mem_cons.mpr ⟨gp1_38 hl, fun _ h => nomatch h⟩⟩⟩⟩⟩)
  replace hg : c1_X7_becomeSample as gaS1 σ some = some o := hg
  unfold c1_X7_becomeSample at hg
  split at hg
  · rename_i r0
    obtain ⟨hb, hg⟩ := gc_bif hg
    obtain rfl := Nat.eq_of_beq_eq_true hb
    obtain rfl := Option.some.inj hg
    exact gp_metG (g := gaG1) (maxL := 1) (lf := true) gp_G1G gp_398 gp_399 ge_G1 hl gc_pnX7 rfl gb_oX7 gc_rk_X7_becomeSample gb_nX7 hM gc_ck_X7_becomeSample (t_X7_becomeSample_S1 σ _ (e_X7_becomeSample σ)) gc_hoV (fun _ h => nomatch h) (fun v hv => by cases hv; rfl) (Nat.le_of_ble_eq_true rfl) rfl
  · cases hg
theorem gp2_43 (hl : l.stackTraces = false) : gp_MM l D cA ad A adV gaG gaS2 43 := by
  refine ⟨gb_T43, fun h => absurd h (by decide +kernel), fun as σ o hg => ?_⟩
  have hM : ∀ mid ∈ ([] : List Nat), gp_MM l D cA ad A adV gaG gaS2 mid := (fun _ h => nomatch h)
  replace hg : c_X7_dayOf as gaS2 σ some = some o := hg
  unfold c_X7_dayOf at hg
  split at hg
  · rename_i r0 a
    obtain ⟨hb, hg⟩ := gc_bif hg
    obtain rfl := Nat.eq_of_beq_eq_true hb
    obtain ⟨q, hq, hg⟩ := gc_bind hg
    obtain rfl := Option.some.inj hg
    exact gp_metP (maxL := 2) (lf := true) hl gc_pnX7 rfl gb_oX7 gc_rk_X7_dayOf gb_nX7 hM gc_ck_X7_dayOf (t_X7_dayOf_S2 a σ _ hq) gd_hoI (fun _ h => nomatch h) (fun v hv => by cases hv; exact Or.inl rfl) (Nat.le_of_ble_eq_true rfl) rfl
  · cases hg
theorem gp2_27 (hl : l.stackTraces = false) : gp_MM l D cA ad A adV gaG gaS2 27 := by
  refine ⟨gb_T27, fun h => absurd h (by decide +kernel), fun as σ o hg => ?_⟩
  have hM : ∀ mid ∈ ([] : List Nat), gp_MM l D cA ad A adV gaG gaS2 mid := (fun _ h => nomatch h)
  replace hg : c_X11_hasBit as gaS2 σ some = some o := hg
  unfold c_X11_hasBit at hg
  split at hg
  · rename_i a b
    obtain rfl := Option.some.inj hg
    exact gp_metP (maxL := 2) (lf := true) hl gc_pnX11 rfl gb_oX11 gc_rk_X11_hasBit gb_nX11 hM gc_ck_X11_hasBit (t_X11_hasBit_S2 a b σ _ (e_X11_hasBit a b σ)) gd_hoI (fun _ h => nomatch h) (fun v hv => by cases hv; exact Or.inr ⟨rfl, z_X11_hasBit a b σ⟩) (Nat.le_of_ble_eq_true rfl) rfl
  · cases hg
theorem gp2_44 (hl : l.stackTraces = false) : gp_MM l D cA ad A adV gaG gaS2 44 := by
  refine ⟨gb_T44, fun h => absurd h (by decide +kernel), fun as σ o hg => ?_⟩
  have hM : ∀ mid ∈ ([1, 27] : List Nat), gp_MM l D cA ad A adV gaG gaS2 mid := (List.forall_mem_cons.mpr ⟨gp2_1 hl, List.forall_mem_cons.mpr ⟨gp2_27 hl, fun _ h => nomatch h⟩⟩)
  replace hg : c_X3_isAway as gaS2 σ some = some o := hg
  unfold c_X3_isAway at hg
  split at hg
  · rename_i r0 a b
    obtain ⟨hb, hg⟩ := gc_bif hg
    obtain rfl := Nat.eq_of_beq_eq_true hb
    obtain rfl := Option.some.inj hg
    exact gp_metP (maxL := 3) (lf := true) hl gc_pnX3 rfl gb_oX3 gc_rk_X3_isAway gb_nX3 hM gc_ck_X3_isAway (t_X3_isAway_S2 a b σ _ (e_X3_isAway a b σ)) gd_hoI (fun _ h => nomatch h) (fun v hv => by cases hv; exact Or.inr ⟨rfl, z_X3_isAway a b σ⟩) (Nat.le_of_ble_eq_true rfl) rfl
  · cases hg
theorem gp2_45 (hl : l.stackTraces = false) : gp_MM l D cA ad A adV gaG gaS2 45 := by
  refine ⟨gb_T45, fun h => absurd h (by decide +kernel), fun as σ o hg => ?_⟩
  have hM : ∀ mid ∈ ([43, 44] : List Nat), gp_MM l D cA ad A adV gaG gaS2 mid := (List.forall_mem_cons.mpr ⟨gp2_43 hl, List.forall_mem_cons.mpr ⟨gp2_44 hl, fun _ h => nomatch h⟩⟩)
  replace hg : c_X3_isAwayAt as gaS2 σ some = some o := hg
  unfold c_X3_isAwayAt at hg
  split at hg
  · rename_i r0 a b
    obtain ⟨hb, hg⟩ := gc_bif hg
    obtain rfl := Nat.eq_of_beq_eq_true hb
    obtain ⟨q, hq, hg⟩ := gc_bind hg
    obtain rfl := Option.some.inj hg
    exact gp_metP (maxL := 3) (lf := true) hl gc_pnX3 rfl gb_oX3 gc_rk_X3_isAwayAt gb_nX3 hM gc_ck_X3_isAwayAt (t_X3_isAwayAt_S2 a b σ _ hq) gd_hoI (fun _ h => nomatch h) (fun v hv => by cases hv; exact Or.inr ⟨rfl, z_X3_isAwayAt a b σ _ hq⟩) (Nat.le_of_ble_eq_true rfl) rfl
  · cases hg
theorem gp2_46 (hl : l.stackTraces = false) : gp_MM l D cA ad A adV gaG gaS2 46 := by
  refine ⟨gb_T46, fun h => absurd h (by decide +kernel), fun as σ o hg => ?_⟩
  have hM : ∀ mid ∈ ([1, 2, 45] : List Nat), gp_MM l D cA ad A adV gaG gaS2 mid := (List.forall_mem_cons.mpr ⟨gp2_1 hl, List.forall_mem_cons.mpr ⟨gp2_2 hl, List.forall_mem_cons.mpr ⟨gp2_45 hl, fun _ h => nomatch h⟩⟩⟩)
  replace hg : c_X3_returnToFirst as gaS2 σ some = some o := hg
  unfold c_X3_returnToFirst at hg
  split at hg
  · rename_i r0
    obtain ⟨hb, hg⟩ := gc_bif hg
    obtain rfl := Nat.eq_of_beq_eq_true hb
    obtain ⟨q, hq, hg⟩ := gc_bind hg
    obtain rfl := Option.some.inj hg
    exact gp_metG (g := gaG) (maxL := 4) (lf := true) (fun _ _ _ _ _ h => h) gf_398 gf_399 ge_G hl gc_pnX3 rfl gb_oX3 gc_rk_X3_returnToFirst gb_nX3 hM gc_ck_X3_returnToFirst (t_X3_returnToFirst_S2 σ _ hq) gc_hoV (fun _ h => nomatch h) (fun v hv => by cases hv; rfl) (Nat.le_of_ble_eq_true rfl) rfl
  · cases hg
theorem gp2_47 (hl : l.stackTraces = false) : gp_MM l D cA ad A adV gaG gaS2 47 := by
  refine ⟨gb_T47, fun h => absurd h (by decide +kernel), fun as σ o hg => ?_⟩
  have hM : ∀ mid ∈ ([2, 46] : List Nat), gp_MM l D cA ad A adV gaG gaS2 mid := (List.forall_mem_cons.mpr ⟨gp2_2 hl, List.forall_mem_cons.mpr ⟨gp2_46 hl, fun _ h => nomatch h⟩⟩)
  replace hg : c_X3_begin as gaS2 σ some = some o := hg
  unfold c_X3_begin at hg
  split at hg
  · rename_i r0
    obtain ⟨hb, hg⟩ := gc_bif hg
    obtain rfl := Nat.eq_of_beq_eq_true hb
    obtain ⟨q, hq, hg⟩ := gc_bind hg
    obtain rfl := Option.some.inj hg
    exact gp_metG (g := gaG) (maxL := 2) (lf := true) (fun _ _ _ _ _ h => h) gf_398 gf_399 ge_G hl gc_pnX3 rfl gb_oX3 gc_rk_X3_begin gb_nX3 hM gc_ck_X3_begin (t_X3_begin_S2 σ _ hq) gc_hoV (fun _ h => nomatch h) (fun v hv => by cases hv; rfl) (Nat.le_of_ble_eq_true rfl) rfl
  · cases hg
theorem gpA1_6 (hl : l.stackTraces = false) : gp_MM l D cA ad A adV gaG gaA1 6 := by
  refine ⟨gb_T6, fun h => absurd h (by decide +kernel), fun as σ o hg => ?_⟩
  have hM : ∀ mid ∈ ([2] : List Nat), gp_MM l D cA ad A adV gaG gaA1 mid := (List.forall_mem_cons.mpr ⟨gpA1_2 hl, fun _ h => nomatch h⟩)
  replace hg : c_X10_append as gaA1 σ some = some o := hg
  unfold c_X10_append at hg
  split at hg
  · rename_i r0 a
    obtain ⟨hb, hg⟩ := gc_bif hg
    obtain rfl := Nat.eq_of_beq_eq_true hb
    obtain ⟨q, hq, hg⟩ := gc_bind hg
    obtain rfl := Option.some.inj hg
    exact gp_metG (g := gaG) (maxL := 3) (lf := true) (fun _ _ _ _ _ h => h) gf_398 gf_399 ge_G hl gc_pnX10 rfl gb_oX10 gc_rk_X10_append gb_nX10 hM gc_ck_X10_append (t_X10_append_A1 a σ _ hq) gc_hoV (fun _ h => nomatch h) (fun v hv => by cases hv; rfl) (Nat.le_of_ble_eq_true rfl) rfl
  · cases hg
theorem gpA2_6 (hl : l.stackTraces = false) : gp_MM l D cA ad A adV gaG gaA2 6 := by
  refine ⟨gb_T6, fun h => absurd h (by decide +kernel), fun as σ o hg => ?_⟩
  have hM : ∀ mid ∈ ([2] : List Nat), gp_MM l D cA ad A adV gaG gaA2 mid := (List.forall_mem_cons.mpr ⟨gpA2_2 hl, fun _ h => nomatch h⟩)
  replace hg : c_X10_append as gaA2 σ some = some o := hg
  unfold c_X10_append at hg
  split at hg
  · rename_i r0 a
    obtain ⟨hb, hg⟩ := gc_bif hg
    obtain rfl := Nat.eq_of_beq_eq_true hb
    obtain ⟨q, hq, hg⟩ := gc_bind hg
    obtain rfl := Option.some.inj hg
    exact gp_metG (g := gaG) (maxL := 3) (lf := true) (fun _ _ _ _ _ h => h) gf_398 gf_399 ge_G hl gc_pnX10 rfl gb_oX10 gc_rk_X10_append gb_nX10 hM gc_ck_X10_append (t_X10_append_A2 a σ _ hq) gc_hoV (fun _ h => nomatch h) (fun v hv => by cases hv; rfl) (Nat.le_of_ble_eq_true rfl) rfl
  · cases hg
theorem gpA3_6 (hl : l.stackTraces = false) : gp_MM l D cA ad A adV gaG gaA3 6 := by
  refine ⟨gb_T6, fun h => absurd h (by decide +kernel), fun as σ o hg => ?_⟩
  have hM : ∀ mid ∈ ([2] : List Nat), gp_MM l D cA ad A adV gaG gaA3 mid := (List.forall_mem_cons.mpr ⟨gpA3_2 hl, fun _ h => nomatch h⟩)
  replace hg : c_X10_append as gaA3 σ some = some o := hg
  unfold c_X10_append at hg
  split at hg
  · rename_i r0 a
    obtain ⟨hb, hg⟩ := gc_bif hg
    obtain rfl := Nat.eq_of_beq_eq_true hb
    obtain ⟨q, hq, hg⟩ := gc_bind hg
    obtain rfl := Option.some.inj hg
    exact gp_metG (g := gaG) (maxL := 3) (lf := true) (fun _ _ _ _ _ h => h) gf_398 gf_399 ge_G hl gc_pnX10 rfl gb_oX10 gc_rk_X10_append gb_nX10 hM gc_ck_X10_append (t_X10_append_A3 a σ _ hq) gc_hoV (fun _ h => nomatch h) (fun v hv => by cases hv; rfl) (Nat.le_of_ble_eq_true rfl) rfl
  · cases hg
theorem gpA4_6 (hl : l.stackTraces = false) : gp_MM l D cA ad A adV gaG gaA4 6 := by
  refine ⟨gb_T6, fun h => absurd h (by decide +kernel), fun as σ o hg => ?_⟩
  have hM : ∀ mid ∈ ([2] : List Nat), gp_MM l D cA ad A adV gaG gaA4 mid := (List.forall_mem_cons.mpr ⟨gpA4_2 hl, fun _ h => nomatch h⟩)
  replace hg : c_X10_append as gaA4 σ some = some o := hg
  unfold c_X10_append at hg
  split at hg
  · rename_i r0 a
    obtain ⟨hb, hg⟩ := gc_bif hg
    obtain rfl := Nat.eq_of_beq_eq_true hb
    obtain ⟨q, hq, hg⟩ := gc_bind hg
    obtain rfl := Option.some.inj hg
    exact gp_metG (g := gaG) (maxL := 3) (lf := true) (fun _ _ _ _ _ h => h) gf_398 gf_399 ge_G hl gc_pnX10 rfl gb_oX10 gc_rk_X10_append gb_nX10 hM gc_ck_X10_append (t_X10_append_A4 a σ _ hq) gc_hoV (fun _ h => nomatch h) (fun v hv => by cases hv; rfl) (Nat.le_of_ble_eq_true rfl) rfl
  · cases hg
theorem gpA5_6 (hl : l.stackTraces = false) : gp_MM l D cA ad A adV gaG gaA5 6 := by
  refine ⟨gb_T6, fun h => absurd h (by decide +kernel), fun as σ o hg => ?_⟩
  have hM : ∀ mid ∈ ([2] : List Nat), gp_MM l D cA ad A adV gaG gaA5 mid := (List.forall_mem_cons.mpr ⟨gpA5_2 hl, fun _ h => nomatch h⟩)
  replace hg : c_X10_append as gaA5 σ some = some o := hg
  unfold c_X10_append at hg
  split at hg
  · rename_i r0 a
    obtain ⟨hb, hg⟩ := gc_bif hg
    obtain rfl := Nat.eq_of_beq_eq_true hb
    obtain ⟨q, hq, hg⟩ := gc_bind hg
    obtain rfl := Option.some.inj hg
    exact gp_metG (g := gaG) (maxL := 3) (lf := true) (fun _ _ _ _ _ h => h) gf_398 gf_399 ge_G hl gc_pnX10 rfl gb_oX10 gc_rk_X10_append gb_nX10 hM gc_ck_X10_append (t_X10_append_A5 a σ _ hq) gc_hoV (fun _ h => nomatch h) (fun v hv => by cases hv; rfl) (Nat.le_of_ble_eq_true rfl) rfl
  · cases hg
theorem gpA6_6 (hl : l.stackTraces = false) : gp_MM l D cA ad A adV gaG gaA6 6 := by
  refine ⟨gb_T6, fun h => absurd h (by decide +kernel), fun as σ o hg => ?_⟩
  have hM : ∀ mid ∈ ([2] : List Nat), gp_MM l D cA ad A adV gaG gaA6 mid := (List.forall_mem_cons.mpr ⟨gpA6_2 hl, fun _ h => nomatch h⟩)
  replace hg : c_X10_append as gaA6 σ some = some o := hg
  unfold c_X10_append at hg
  split at hg
  · rename_i r0 a
    obtain ⟨hb, hg⟩ := gc_bif hg
    obtain rfl := Nat.eq_of_beq_eq_true hb
    obtain ⟨q, hq, hg⟩ := gc_bind hg
    obtain rfl := Option.some.inj hg
    exact gp_metG (g := gaG) (maxL := 3) (lf := true) (fun _ _ _ _ _ h => h) gf_398 gf_399 ge_G hl gc_pnX10 rfl gb_oX10 gc_rk_X10_append gb_nX10 hM gc_ck_X10_append (t_X10_append_A6 a σ _ hq) gc_hoV (fun _ h => nomatch h) (fun v hv => by cases hv; rfl) (Nat.le_of_ble_eq_true rfl) rfl
  · cases hg
theorem gpA7_6 (hl : l.stackTraces = false) : gp_MM l D cA ad A adV gaG gaA7 6 := by
  refine ⟨gb_T6, fun h => absurd h (by decide +kernel), fun as σ o hg => ?_⟩
  have hM : ∀ mid ∈ ([2] : List Nat), gp_MM l D cA ad A adV gaG gaA7 mid := (List.forall_mem_cons.mpr ⟨gpA7_2 hl, fun _ h => nomatch h⟩)
  replace hg : c_X10_append as gaA7 σ some = some o := hg
  unfold c_X10_append at hg
  split at hg
  · rename_i r0 a
    obtain ⟨hb, hg⟩ := gc_bif hg
    obtain rfl := Nat.eq_of_beq_eq_true hb
    obtain ⟨q, hq, hg⟩ := gc_bind hg
    obtain rfl := Option.some.inj hg
    exact gp_metG (g := gaG) (maxL := 3) (lf := true) (fun _ _ _ _ _ h => h) gf_398 gf_399 ge_G hl gc_pnX10 rfl gb_oX10 gc_rk_X10_append gb_nX10 hM gc_ck_X10_append (t_X10_append_A7 a σ _ hq) gc_hoV (fun _ h => nomatch h) (fun v hv => by cases hv; rfl) (Nat.le_of_ble_eq_true rfl) rfl
  · cases hg
theorem gpA8_6 (hl : l.stackTraces = false) : gp_MM l D cA ad A adV gaG gaA8 6 := by
  refine ⟨gb_T6, fun h => absurd h (by decide +kernel), fun as σ o hg => ?_⟩
  have hM : ∀ mid ∈ ([2] : List Nat), gp_MM l D cA ad A adV gaG gaA8 mid := (List.forall_mem_cons.mpr ⟨gpA8_2 hl, fun _ h => nomatch h⟩)
  replace hg : c_X10_append as gaA8 σ some = some o := hg
  unfold c_X10_append at hg
  split at hg
  · rename_i r0 a
    obtain ⟨hb, hg⟩ := gc_bif hg
    obtain rfl := Nat.eq_of_beq_eq_true hb
    obtain ⟨q, hq, hg⟩ := gc_bind hg
    obtain rfl := Option.some.inj hg
    exact gp_metG (g := gaG) (maxL := 3) (lf := true) (fun _ _ _ _ _ h => h) gf_398 gf_399 ge_G hl gc_pnX10 rfl gb_oX10 gc_rk_X10_append gb_nX10 hM gc_ck_X10_append (t_X10_append_A8 a σ _ hq) gc_hoV (fun _ h => nomatch h) (fun v hv => by cases hv; rfl) (Nat.le_of_ble_eq_true rfl) rfl
  · cases hg
theorem gpA9_6 (hl : l.stackTraces = false) : gp_MM l D cA ad A adV gaG gaA9 6 := by
  refine ⟨gb_T6, fun h => absurd h (by decide +kernel), fun as σ o hg => ?_⟩
  have hM : ∀ mid ∈ ([2] : List Nat), gp_MM l D cA ad A adV gaG gaA9 mid := (List.forall_mem_cons.mpr ⟨gpA9_2 hl, fun _ h => nomatch h⟩)
  replace hg : c_X10_append as gaA9 σ some = some o := hg
  unfold c_X10_append at hg
  split at hg
  · rename_i r0 a
    obtain ⟨hb, hg⟩ := gc_bif hg
    obtain rfl := Nat.eq_of_beq_eq_true hb
    obtain ⟨q, hq, hg⟩ := gc_bind hg
    obtain rfl := Option.some.inj hg
    exact gp_metG (g := gaG) (maxL := 3) (lf := true) (fun _ _ _ _ _ h => h) gf_398 gf_399 ge_G hl gc_pnX10 rfl gb_oX10 gc_rk_X10_append gb_nX10 hM gc_ck_X10_append (t_X10_append_A9 a σ _ hq) gc_hoV (fun _ h => nomatch h) (fun v hv => by cases hv; rfl) (Nat.le_of_ble_eq_true rfl) rfl
  · cases hg
theorem gpA10_6 (hl : l.stackTraces = false) : gp_MM l D cA ad A adV gaG gaA10 6 := by
  refine ⟨gb_T6, fun h => absurd h (by decide +kernel), fun as σ o hg => ?_⟩
  have hM : ∀ mid ∈ ([2] : List Nat), gp_MM l D cA ad A adV gaG gaA10 mid := (List.forall_mem_cons.mpr ⟨gpA10_2 hl, fun _ h => nomatch h⟩)
  replace hg : c_X10_append as gaA10 σ some = some o := hg
  unfold c_X10_append at hg
  split at hg
  · rename_i r0 a
    obtain ⟨hb, hg⟩ := gc_bif hg
    obtain rfl := Nat.eq_of_beq_eq_true hb
    obtain ⟨q, hq, hg⟩ := gc_bind hg
    obtain rfl := Option.some.inj hg
    exact gp_metG (g := gaG) (maxL := 3) (lf := true) (fun _ _ _ _ _ h => h) gf_398 gf_399 ge_G hl gc_pnX10 rfl gb_oX10 gc_rk_X10_append gb_nX10 hM gc_ck_X10_append (t_X10_append_A10 a σ _ hq) gc_hoV (fun _ h => nomatch h) (fun v hv => by cases hv; rfl) (Nat.le_of_ble_eq_true rfl) rfl
  · cases hg
theorem gpA11_6 (hl : l.stackTraces = false) : gp_MM l D cA ad A adV gaG gaA11 6 := by
  refine ⟨gb_T6, fun h => absurd h (by decide +kernel), fun as σ o hg => ?_⟩
  have hM : ∀ mid ∈ ([2] : List Nat), gp_MM l D cA ad A adV gaG gaA11 mid := (List.forall_mem_cons.mpr ⟨gpA11_2 hl, fun _ h => nomatch h⟩)
  replace hg : c_X10_append as gaA11 σ some = some o := hg
  unfold c_X10_append at hg
  split at hg
  · rename_i r0 a
    obtain ⟨hb, hg⟩ := gc_bif hg
    obtain rfl := Nat.eq_of_beq_eq_true hb
    obtain ⟨q, hq, hg⟩ := gc_bind hg
    obtain rfl := Option.some.inj hg
    exact gp_metG (g := gaG) (maxL := 3) (lf := true) (fun _ _ _ _ _ h => h) gf_398 gf_399 ge_G hl gc_pnX10 rfl gb_oX10 gc_rk_X10_append gb_nX10 hM gc_ck_X10_append (t_X10_append_A11 a σ _ hq) gc_hoV (fun _ h => nomatch h) (fun v hv => by cases hv; rfl) (Nat.le_of_ble_eq_true rfl) rfl
  · cases hg
theorem gtA1 (hl : l.stackTraces = false) (a b c d e : Int32) (σ : ga_M) (x : Int32) (σ' : ga_M) (hq : f_X11_appendText a b c d e σ = some (.inl x, σ')) : gb_C l D cA ad A adV (gb_y 400) (gb_ws (gb_y 400) (gb_b 400) (gb_n 400) (gb_r 400)) (gb_lv 400) (gaCost 400).1 (gaCost 400).2 [.ref 0, .int a, .int b, .int c, .int d, .int e] gaA1 σ (.inl (some (.int x)), gaA1, σ') := by
  have hM : ∀ mid ∈ ([6] : List Nat), gp_MM l D cA ad A adV gaG gaA1 mid := (List.forall_mem_cons.mpr ⟨gpA1_6 hl, fun _ h => nomatch h⟩)
  exact gp_metG (g := gaG) (maxL := 6) (lf := true) (fun _ _ _ _ _ h => h) gf_398 gf_399 ge_G hl gc_pnX11 rfl gb_oX11 gc_rk_X11_appendText gb_nX11 hM gc_ck_X11_appendText (t_X11_appendText_A1 a b c d e σ _ hq) gc_hoIXl (fun _ h => nomatch h) (fun v hv => by cases hv; exact Or.inl rfl) (Nat.le_of_ble_eq_true rfl) rfl
theorem gtA2 (hl : l.stackTraces = false) (a b c d e : Int32) (σ : ga_M) (x : Int32) (σ' : ga_M) (hq : f_X11_appendText a b c d e σ = some (.inl x, σ')) : gb_C l D cA ad A adV (gb_y 400) (gb_ws (gb_y 400) (gb_b 400) (gb_n 400) (gb_r 400)) (gb_lv 400) (gaCost 400).1 (gaCost 400).2 [.ref 0, .int a, .int b, .int c, .int d, .int e] gaA2 σ (.inl (some (.int x)), gaA2, σ') := by
  have hM : ∀ mid ∈ ([6] : List Nat), gp_MM l D cA ad A adV gaG gaA2 mid := (List.forall_mem_cons.mpr ⟨gpA2_6 hl, fun _ h => nomatch h⟩)
  exact gp_metG (g := gaG) (maxL := 6) (lf := true) (fun _ _ _ _ _ h => h) gf_398 gf_399 ge_G hl gc_pnX11 rfl gb_oX11 gc_rk_X11_appendText gb_nX11 hM gc_ck_X11_appendText (t_X11_appendText_A2 a b c d e σ _ hq) gc_hoIXl (fun _ h => nomatch h) (fun v hv => by cases hv; exact Or.inl rfl) (Nat.le_of_ble_eq_true rfl) rfl
theorem gtA3 (hl : l.stackTraces = false) (a b c d e : Int32) (σ : ga_M) (x : Int32) (σ' : ga_M) (hq : f_X11_appendText a b c d e σ = some (.inl x, σ')) : gb_C l D cA ad A adV (gb_y 400) (gb_ws (gb_y 400) (gb_b 400) (gb_n 400) (gb_r 400)) (gb_lv 400) (gaCost 400).1 (gaCost 400).2 [.ref 0, .int a, .int b, .int c, .int d, .int e] gaA3 σ (.inl (some (.int x)), gaA3, σ') := by
  have hM : ∀ mid ∈ ([6] : List Nat), gp_MM l D cA ad A adV gaG gaA3 mid := (List.forall_mem_cons.mpr ⟨gpA3_6 hl, fun _ h => nomatch h⟩)
  exact gp_metG (g := gaG) (maxL := 6) (lf := true) (fun _ _ _ _ _ h => h) gf_398 gf_399 ge_G hl gc_pnX11 rfl gb_oX11 gc_rk_X11_appendText gb_nX11 hM gc_ck_X11_appendText (t_X11_appendText_A3 a b c d e σ _ hq) gc_hoIXl (fun _ h => nomatch h) (fun v hv => by cases hv; exact Or.inl rfl) (Nat.le_of_ble_eq_true rfl) rfl
theorem gtA4 (hl : l.stackTraces = false) (a b c d e : Int32) (σ : ga_M) (x : Int32) (σ' : ga_M) (hq : f_X11_appendText a b c d e σ = some (.inl x, σ')) : gb_C l D cA ad A adV (gb_y 400) (gb_ws (gb_y 400) (gb_b 400) (gb_n 400) (gb_r 400)) (gb_lv 400) (gaCost 400).1 (gaCost 400).2 [.ref 0, .int a, .int b, .int c, .int d, .int e] gaA4 σ (.inl (some (.int x)), gaA4, σ') := by
  have hM : ∀ mid ∈ ([6] : List Nat), gp_MM l D cA ad A adV gaG gaA4 mid := (List.forall_mem_cons.mpr ⟨gpA4_6 hl, fun _ h => nomatch h⟩)
  exact gp_metG (g := gaG) (maxL := 6) (lf := true) (fun _ _ _ _ _ h => h) gf_398 gf_399 ge_G hl gc_pnX11 rfl gb_oX11 gc_rk_X11_appendText gb_nX11 hM gc_ck_X11_appendText (t_X11_appendText_A4 a b c d e σ _ hq) gc_hoIXl (fun _ h => nomatch h) (fun v hv => by cases hv; exact Or.inl rfl) (Nat.le_of_ble_eq_true rfl) rfl
theorem gtA5 (hl : l.stackTraces = false) (a b c d e : Int32) (σ : ga_M) (x : Int32) (σ' : ga_M) (hq : f_X11_appendText a b c d e σ = some (.inl x, σ')) : gb_C l D cA ad A adV (gb_y 400) (gb_ws (gb_y 400) (gb_b 400) (gb_n 400) (gb_r 400)) (gb_lv 400) (gaCost 400).1 (gaCost 400).2 [.ref 0, .int a, .int b, .int c, .int d, .int e] gaA5 σ (.inl (some (.int x)), gaA5, σ') := by
  have hM : ∀ mid ∈ ([6] : List Nat), gp_MM l D cA ad A adV gaG gaA5 mid := (List.forall_mem_cons.mpr ⟨gpA5_6 hl, fun _ h => nomatch h⟩)
  exact gp_metG (g := gaG) (maxL := 6) (lf := true) (fun _ _ _ _ _ h => h) gf_398 gf_399 ge_G hl gc_pnX11 rfl gb_oX11 gc_rk_X11_appendText gb_nX11 hM gc_ck_X11_appendText (t_X11_appendText_A5 a b c d e σ _ hq) gc_hoIXl (fun _ h => nomatch h) (fun v hv => by cases hv; exact Or.inl rfl) (Nat.le_of_ble_eq_true rfl) rfl
theorem gtA6 (hl : l.stackTraces = false) (a b c d e : Int32) (σ : ga_M) (x : Int32) (σ' : ga_M) (hq : f_X11_appendText a b c d e σ = some (.inl x, σ')) : gb_C l D cA ad A adV (gb_y 400) (gb_ws (gb_y 400) (gb_b 400) (gb_n 400) (gb_r 400)) (gb_lv 400) (gaCost 400).1 (gaCost 400).2 [.ref 0, .int a, .int b, .int c, .int d, .int e] gaA6 σ (.inl (some (.int x)), gaA6, σ') := by
  have hM : ∀ mid ∈ ([6] : List Nat), gp_MM l D cA ad A adV gaG gaA6 mid := (List.forall_mem_cons.mpr ⟨gpA6_6 hl, fun _ h => nomatch h⟩)
  exact gp_metG (g := gaG) (maxL := 6) (lf := true) (fun _ _ _ _ _ h => h) gf_398 gf_399 ge_G hl gc_pnX11 rfl gb_oX11 gc_rk_X11_appendText gb_nX11 hM gc_ck_X11_appendText (t_X11_appendText_A6 a b c d e σ _ hq) gc_hoIXl (fun _ h => nomatch h) (fun v hv => by cases hv; exact Or.inl rfl) (Nat.le_of_ble_eq_true rfl) rfl
theorem gtA7 (hl : l.stackTraces = false) (a b c d e : Int32) (σ : ga_M) (x : Int32) (σ' : ga_M) (hq : f_X11_appendText a b c d e σ = some (.inl x, σ')) : gb_C l D cA ad A adV (gb_y 400) (gb_ws (gb_y 400) (gb_b 400) (gb_n 400) (gb_r 400)) (gb_lv 400) (gaCost 400).1 (gaCost 400).2 [.ref 0, .int a, .int b, .int c, .int d, .int e] gaA7 σ (.inl (some (.int x)), gaA7, σ') := by
  have hM : ∀ mid ∈ ([6] : List Nat), gp_MM l D cA ad A adV gaG gaA7 mid := (List.forall_mem_cons.mpr ⟨gpA7_6 hl, fun _ h => nomatch h⟩)
  exact gp_metG (g := gaG) (maxL := 6) (lf := true) (fun _ _ _ _ _ h => h) gf_398 gf_399 ge_G hl gc_pnX11 rfl gb_oX11 gc_rk_X11_appendText gb_nX11 hM gc_ck_X11_appendText (t_X11_appendText_A7 a b c d e σ _ hq) gc_hoIXl (fun _ h => nomatch h) (fun v hv => by cases hv; exact Or.inl rfl) (Nat.le_of_ble_eq_true rfl) rfl
theorem gtA8 (hl : l.stackTraces = false) (a b c d e : Int32) (σ : ga_M) (x : Int32) (σ' : ga_M) (hq : f_X11_appendText a b c d e σ = some (.inl x, σ')) : gb_C l D cA ad A adV (gb_y 400) (gb_ws (gb_y 400) (gb_b 400) (gb_n 400) (gb_r 400)) (gb_lv 400) (gaCost 400).1 (gaCost 400).2 [.ref 0, .int a, .int b, .int c, .int d, .int e] gaA8 σ (.inl (some (.int x)), gaA8, σ') := by
  have hM : ∀ mid ∈ ([6] : List Nat), gp_MM l D cA ad A adV gaG gaA8 mid := (List.forall_mem_cons.mpr ⟨gpA8_6 hl, fun _ h => nomatch h⟩)
  exact gp_metG (g := gaG) (maxL := 6) (lf := true) (fun _ _ _ _ _ h => h) gf_398 gf_399 ge_G hl gc_pnX11 rfl gb_oX11 gc_rk_X11_appendText gb_nX11 hM gc_ck_X11_appendText (t_X11_appendText_A8 a b c d e σ _ hq) gc_hoIXl (fun _ h => nomatch h) (fun v hv => by cases hv; exact Or.inl rfl) (Nat.le_of_ble_eq_true rfl) rfl
theorem gtA9 (hl : l.stackTraces = false) (a b c d e : Int32) (σ : ga_M) (x : Int32) (σ' : ga_M) (hq : f_X11_appendText a b c d e σ = some (.inl x, σ')) : gb_C l D cA ad A adV (gb_y 400) (gb_ws (gb_y 400) (gb_b 400) (gb_n 400) (gb_r 400)) (gb_lv 400) (gaCost 400).1 (gaCost 400).2 [.ref 0, .int a, .int b, .int c, .int d, .int e] gaA9 σ (.inl (some (.int x)), gaA9, σ') := by
  have hM : ∀ mid ∈ ([6] : List Nat), gp_MM l D cA ad A adV gaG gaA9 mid := (List.forall_mem_cons.mpr ⟨gpA9_6 hl, fun _ h => nomatch h⟩)
  exact gp_metG (g := gaG) (maxL := 6) (lf := true) (fun _ _ _ _ _ h => h) gf_398 gf_399 ge_G hl gc_pnX11 rfl gb_oX11 gc_rk_X11_appendText gb_nX11 hM gc_ck_X11_appendText (t_X11_appendText_A9 a b c d e σ _ hq) gc_hoIXl (fun _ h => nomatch h) (fun v hv => by cases hv; exact Or.inl rfl) (Nat.le_of_ble_eq_true rfl) rfl
theorem gtA10 (hl : l.stackTraces = false) (a b c d e : Int32) (σ : ga_M) (x : Int32) (σ' : ga_M) (hq : f_X11_appendText a b c d e σ = some (.inl x, σ')) : gb_C l D cA ad A adV (gb_y 400) (gb_ws (gb_y 400) (gb_b 400) (gb_n 400) (gb_r 400)) (gb_lv 400) (gaCost 400).1 (gaCost 400).2 [.ref 0, .int a, .int b, .int c, .int d, .int e] gaA10 σ (.inl (some (.int x)), gaA10, σ') := by
  have hM : ∀ mid ∈ ([6] : List Nat), gp_MM l D cA ad A adV gaG gaA10 mid := (List.forall_mem_cons.mpr ⟨gpA10_6 hl, fun _ h => nomatch h⟩)
  exact gp_metG (g := gaG) (maxL := 6) (lf := true) (fun _ _ _ _ _ h => h) gf_398 gf_399 ge_G hl gc_pnX11 rfl gb_oX11 gc_rk_X11_appendText gb_nX11 hM gc_ck_X11_appendText (t_X11_appendText_A10 a b c d e σ _ hq) gc_hoIXl (fun _ h => nomatch h) (fun v hv => by cases hv; exact Or.inl rfl) (Nat.le_of_ble_eq_true rfl) rfl
theorem gtA11 (hl : l.stackTraces = false) (a b c d e : Int32) (σ : ga_M) (x : Int32) (σ' : ga_M) (hq : f_X11_appendText a b c d e σ = some (.inl x, σ')) : gb_C l D cA ad A adV (gb_y 400) (gb_ws (gb_y 400) (gb_b 400) (gb_n 400) (gb_r 400)) (gb_lv 400) (gaCost 400).1 (gaCost 400).2 [.ref 0, .int a, .int b, .int c, .int d, .int e] gaA11 σ (.inl (some (.int x)), gaA11, σ') := by
  have hM : ∀ mid ∈ ([6] : List Nat), gp_MM l D cA ad A adV gaG gaA11 mid := (List.forall_mem_cons.mpr ⟨gpA11_6 hl, fun _ h => nomatch h⟩)
  exact gp_metG (g := gaG) (maxL := 6) (lf := true) (fun _ _ _ _ _ h => h) gf_398 gf_399 ge_G hl gc_pnX11 rfl gb_oX11 gc_rk_X11_appendText gb_nX11 hM gc_ck_X11_appendText (t_X11_appendText_A11 a b c d e σ _ hq) gc_hoIXl (fun _ h => nomatch h) (fun v hv => by cases hv; exact Or.inl rfl) (Nat.le_of_ble_eq_true rfl) rfl
end GP0
end
