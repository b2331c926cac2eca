set_option maxRecDepth 100000 in
theorem t_X7_addSubject (a : Int32) (s : ga_M) (r : ga_M) (h : f_X7_addSubject a s = some r) : T_X7_addSubject gaSH ga_kV (0, [some (.ref 1), some (.int a)], [], gaSH, s, 0, 0) r := (by
    rw [fe_X7_addSubject] at h
    exact ga_T_go (sp := ga_sp []) (ga_sp_T (fun _ h => nomatch h)) (n := 600) h)
set_option maxRecDepth 100000 in
theorem t_X7_addTeacher (a : Int32) (b : Int32) (s : ga_M) (r : ga_M) (h : f_X7_addTeacher a b s = some r) : T_X7_addTeacher gaSH ga_kV (0, [some (.ref 1), some (.int a), some (.int b)], [], gaSH, s, 0, 0) r := (by
    rw [fe_X7_addTeacher] at h
    exact ga_T_go (sp := ga_sp []) (ga_sp_T (fun _ h => nomatch h)) (n := 600) h)
set_option maxRecDepth 100000 in
theorem t_X7_addRoom (a : Int32) (s : ga_M) (r : ga_M) (h : f_X7_addRoom a s = some r) : T_X7_addRoom gaSH ga_kV (0, [some (.ref 1), some (.int a)], [], gaSH, s, 0, 0) r := (by
    rw [fe_X7_addRoom] at h
    exact ga_T_go (sp := ga_sp []) (ga_sp_T (fun _ h => nomatch h)) (n := 600) h)
set_option maxRecDepth 100000 in
theorem t_X7_addLesson (a : Int32) (b : Int32) (c : Int32) (d : Int32) (e : Int32) (s : ga_M) (r : ga_M) (h : f_X7_addLesson a b c d e s = some r) : T_X7_addLesson gaSH ga_kV (0, [some (.ref 1), some (.int a), some (.int b), some (.int c), some (.int d), some (.int e)], [], gaSH, s, 0, 0) r := (by
    rw [fe_X7_addLesson] at h
    exact ga_T_go (sp := ga_sp []) (ga_sp_T (fun _ h => nomatch h)) (n := 600) h)
abbrev T_X7_becomeSample {α : Type} (P : ga_S) (K0 : ga_O → Option α) (cfg : ga_C) (r : α) : Prop := ga_T RX7 cX7_becomeSample (ga_lk cl_X7_becomeSample) gaG gaCost (fun _ => []) gaCls 83 0 0 false true true none (fun S _ => S = P) K0 cfg r
set_option maxRecDepth 100000 in
theorem t_X7_becomeSample (s : ga_M) (r : ga_M) (h : f_X7_becomeSample s = some r) : T_X7_becomeSample gaSH ga_kV (0, [some (.ref 1)], [], gaSH, s, 0, 0) r := (by
    rw [fe_X7_becomeSample] at h
    exact ga_T_go (sp := ga_sp []) (ga_sp_T (fun _ h => nomatch h)) (n := 600) h)
abbrev T_L_appendText {α : Type} (P : ga_S) (K0 : ga_O → Option α) (cfg : ga_C) (r : α) : Prop := ga_T RL cL_appendText (ga_lk cl_L_appendText) gaG gaCost (fun pc => bif Nat.beq pc 11 then [(1, 21, 7)] else []) gaCls 83 1 6 false true true none (fun S _ => S = P) K0 cfg r
set_option maxRecDepth 100000 in
theorem t_L_appendText_0_82 (a : Int32) (b : Int32) (c : Int32) (d : Int32) (e : Int32) (s : ga_M) (r : (Int32 ⊕ Nat) × ga_M) (h : f_L_appendText_0_82 a b c d e s = some r) : T_L_appendText gaSH ga_kIX (0, [some (.ref 0), some (.int a), some (.int b), some (.int c), some (.int d), some (.int e), some (.ref 82), none], [], gaSH, s, 0, 0) r := (by
    rw [fe_L_appendText_0_82] at h
    exact ga_T_go (sp := ga_sp []) (ga_sp_T (fun _ h => nomatch h)) (n := 600) h)
abbrev T_L_truncateText {α : Type} (P : ga_S) (K0 : ga_O → Option α) (cfg : ga_C) (r : α) : Prop := ga_T RL cL_truncateText (ga_lk cl_L_truncateText) gaG gaCost (fun pc => bif Nat.beq pc 4 then [(2, 13, 3)] else []) gaCls 83 1 6 false true true none (fun S _ => S = P) K0 cfg r
set_option maxRecDepth 100000 in
theorem t_L_truncateText_0_82 (a : Int32) (s : ga_M) (r : (Int32 ⊕ Nat) × ga_M) (h : f_L_truncateText_0_82 a s = some r) : T_L_truncateText gaSH ga_kIX (0, [some (.ref 0), some (.int a), some (.ref 82), none], [], gaSH, s, 0, 0) r := (by
    rw [fe_L_truncateText_0_82] at h
    exact ga_T_go (sp := ga_sp []) (ga_sp_T (fun _ h => nomatch h)) (n := 600) h)
abbrev T_L_setAbsent {α : Type} (P : ga_S) (K0 : ga_O → Option α) (cfg : ga_C) (r : α) : Prop := ga_T RL cL_setAbsent (ga_lk cl_L_setAbsent) gaG gaCost (fun pc => bif Nat.beq pc 7 then [(3, 17, 5)] else []) gaCls 83 2 12 false true true none (fun S _ => S = P) K0 cfg r
set_option maxRecDepth 100000 in
theorem t_L_setAbsent_0_82 (a : Int32) (b : Int32) (c : Int32) (s : ga_M) (r : (Int32 ⊕ Nat) × ga_M) (h : f_L_setAbsent_0_82 a b c s = some r) : T_L_setAbsent gaSH ga_kIX (0, [some (.ref 0), some (.int a), some (.int b), some (.int c), some (.ref 82), none], [], gaSH, s, 0, 0) r := (by
    rw [fe_L_setAbsent_0_82] at h
    exact ga_T_go (sp := ga_sp []) (ga_sp_T (fun _ h => nomatch h)) (n := 600) h)
abbrev T_L_cover {α : Type} (P : ga_S) (K0 : ga_O → Option α) (cfg : ga_C) (r : α) : Prop := ga_T RL cL_cover (ga_lk cl_L_cover) gaG gaCost (fun pc => bif Nat.beq pc 5 then [(3, 15, 4), (1, 19, 4)] else []) gaCls 83 3 18 false true true none (fun S _ => S = P) K0 cfg r
set_option maxRecDepth 100000 in
theorem t_L_cover_0_82 (a : Int32) (b : Int32) (s : ga_M) (r : (Int32 ⊕ Nat) × ga_M) (h : f_L_cover_0_82 a b s = some r) : T_L_cover gaSH ga_kIX (0, [some (.ref 0), some (.int a), some (.int b), some (.ref 82), none], [], gaSH, s, 0, 0) r := (by
    rw [fe_L_cover_0_82] at h
    exact ga_T_go (sp := ga_sp []) (ga_sp_T (fun _ h => nomatch h)) (n := 600) h)
abbrev T_L_supervise {α : Type} (P : ga_S) (K0 : ga_O → Option α) (cfg : ga_C) (r : α) : Prop := ga_T RL cL_supervise (ga_lk cl_L_supervise) gaG gaCost (fun pc => bif Nat.beq pc 5 then [(3, 15, 4), (1, 19, 4)] else []) gaCls 83 3 18 false true true none (fun S _ => S = P) K0 cfg r
set_option maxRecDepth 100000 in
theorem t_L_supervise_0_82 (a : Int32) (b : Int32) (s : ga_M) (r : (Int32 ⊕ Nat) × ga_M) (h : f_L_supervise_0_82 a b s = some r) : T_L_supervise gaSH ga_kIX (0, [some (.ref 0), some (.int a), some (.int b), some (.ref 82), none], [], gaSH, s, 0, 0) r := (by
    rw [fe_L_supervise_0_82] at h
    exact ga_T_go (sp := ga_sp []) (ga_sp_T (fun _ h => nomatch h)) (n := 600) h)
abbrev T_L_repair {α : Type} (P : ga_S) (K0 : ga_O → Option α) (cfg : ga_C) (r : α) : Prop := ga_T RL cL_repair (ga_lk cl_L_repair) gaG gaCost (fun pc => bif Nat.beq pc 4 then [(3, 13, 3), (1, 16, 3)] else []) gaCls 83 2 12 false true true none (fun S _ => S = P) K0 cfg r
set_option maxRecDepth 100000 in
theorem t_L_repair_0_82 (a : Int32) (s : ga_M) (r : (Int32 ⊕ Nat) × ga_M) (h : f_L_repair_0_82 a s = some r) : T_L_repair gaSH ga_kIX (0, [some (.ref 0), some (.int a), some (.ref 82), none], [], gaSH, s, 0, 0) r := (by
    rw [fe_L_repair_0_82] at h
    exact ga_T_go (sp := ga_sp []) (ga_sp_T (fun _ h => nomatch h)) (n := 600) h)
abbrev T_L_exchange {α : Type} (P : ga_S) (K0 : ga_O → Option α) (cfg : ga_C) (r : α) : Prop := ga_T RL cL_exchange (ga_lk cl_L_exchange) gaG gaCost (fun pc => bif Nat.beq pc 5 then [(3, 15, 4), (1, 19, 4)] else []) gaCls 83 3 18 false true true none (fun S _ => S = P) K0 cfg r
set_option maxRecDepth 100000 in
theorem t_L_exchange_0_82 (a : Int32) (b : Int32) (s : ga_M) (r : (Int32 ⊕ Nat) × ga_M) (h : f_L_exchange_0_82 a b s = some r) : T_L_exchange gaSH ga_kIX (0, [some (.ref 0), some (.int a), some (.int b), some (.ref 82), none], [], gaSH, s, 0, 0) r := (by
    rw [fe_L_exchange_0_82] at h
    exact ga_T_go (sp := ga_sp []) (ga_sp_T (fun _ h => nomatch h)) (n := 600) h)
abbrev T_L_move {α : Type} (P : ga_S) (K0 : ga_O → Option α) (cfg : ga_C) (r : α) : Prop := ga_T RL cL_move (ga_lk cl_L_move) gaG gaCost (fun pc => bif Nat.beq pc 5 then [(3, 15, 4), (1, 19, 4)] else []) gaCls 83 3 18 false true true none (fun S _ => S = P) K0 cfg r
set_option maxRecDepth 100000 in
theorem t_L_move_0_82 (a : Int32) (b : Int32) (s : ga_M) (r : (Int32 ⊕ Nat) × ga_M) (h : f_L_move_0_82 a b s = some r) : T_L_move gaSH ga_kIX (0, [some (.ref 0), some (.int a), some (.int b), some (.ref 82), none], [], gaSH, s, 0, 0) r := (by
    rw [fe_L_move_0_82] at h
    exact ga_T_go (sp := ga_sp []) (ga_sp_T (fun _ h => nomatch h)) (n := 600) h)
abbrev T_L_setRoom {α : Type} (P : ga_S) (K0 : ga_O → Option α) (cfg : ga_C) (r : α) : Prop := ga_T RL cL_setRoom (ga_lk cl_L_setRoom) gaG gaCost (fun pc => bif Nat.beq pc 5 then [(3, 15, 4), (1, 19, 4)] else []) gaCls 83 3 18 false true true none (fun S _ => S = P) K0 cfg r
set_option maxRecDepth 100000 in
theorem t_L_setRoom_0_82 (a : Int32) (b : Int32) (s : ga_M) (r : (Int32 ⊕ Nat) × ga_M) (h : f_L_setRoom_0_82 a b s = some r) : T_L_setRoom gaSH ga_kIX (0, [some (.ref 0), some (.int a), some (.int b), some (.ref 82), none], [], gaSH, s, 0, 0) r := (by
    rw [fe_L_setRoom_0_82] at h
    exact ga_T_go (sp := ga_sp []) (ga_sp_T (fun _ h => nomatch h)) (n := 600) h)
abbrev T_L_reopen {α : Type} (P : ga_S) (K0 : ga_O → Option α) (cfg : ga_C) (r : α) : Prop := ga_T RL cL_reopen (ga_lk cl_L_reopen) gaG gaCost (fun pc => bif Nat.beq pc 4 then [(3, 13, 3), (1, 16, 3)] else []) gaCls 83 2 12 false true true none (fun S _ => S = P) K0 cfg r
set_option maxRecDepth 100000 in
theorem t_L_reopen_0_82 (a : Int32) (s : ga_M) (r : (Int32 ⊕ Nat) × ga_M) (h : f_L_reopen_0_82 a s = some r) : T_L_reopen gaSH ga_kIX (0, [some (.ref 0), some (.int a), some (.ref 82), none], [], gaSH, s, 0, 0) r := (by
    rw [fe_L_reopen_0_82] at h
    exact ga_T_go (sp := ga_sp []) (ga_sp_T (fun _ h => nomatch h)) (n := 600) h)
abbrev T_L_whyNotCover {α : Type} (P : ga_S) (K0 : ga_O → Option α) (cfg : ga_C) (r : α) : Prop := ga_T RL cL_whyNotCover (ga_lk cl_L_whyNotCover) gaG gaCost (fun pc => bif Nat.beq pc 5 then [(3, 15, 4)] else []) gaCls 83 2 12 false true true none (fun S _ => S = P) K0 cfg r
set_option maxRecDepth 100000 in
theorem t_L_whyNotCover_0_82 (a : Int32) (b : Int32) (s : ga_M) (r : (Int32 ⊕ Nat) × ga_M) (h : f_L_whyNotCover_0_82 a b s = some r) : T_L_whyNotCover gaSH ga_kIX (0, [some (.ref 0), some (.int a), some (.int b), some (.ref 82), none], [], gaSH, s, 0, 0) r := (by
    rw [fe_L_whyNotCover_0_82] at h
    exact ga_T_go (sp := ga_sp []) (ga_sp_T (fun _ h => nomatch h)) (n := 600) h)
abbrev T_L_whyNotSupervise {α : Type} (P : ga_S) (K0 : ga_O → Option α) (cfg : ga_C) (r : α) : Prop := ga_T RL cL_whyNotSupervise (ga_lk cl_L_whyNotSupervise) gaG gaCost (fun pc => bif Nat.beq pc 5 then [(3, 15, 4)] else []) gaCls 83 2 12 false true true none (fun S _ => S = P) K0 cfg r
set_option maxRecDepth 100000 in
theorem t_L_whyNotSupervise_0_82 (a : Int32) (b : Int32) (s : ga_M) (r : (Int32 ⊕ Nat) × ga_M) (h : f_L_whyNotSupervise_0_82 a b s = some r) : T_L_whyNotSupervise gaSH ga_kIX (0, [some (.ref 0), some (.int a), some (.int b), some (.ref 82), none], [], gaSH, s, 0, 0) r := (by
    rw [fe_L_whyNotSupervise_0_82] at h
    exact ga_T_go (sp := ga_sp []) (ga_sp_T (fun _ h => nomatch h)) (n := 600) h)
abbrev T_L_whyNotExchange {α : Type} (P : ga_S) (K0 : ga_O → Option α) (cfg : ga_C) (r : α) : Prop := ga_T RL cL_whyNotExchange (ga_lk cl_L_whyNotExchange) gaG gaCost (fun pc => bif Nat.beq pc 5 then [(3, 15, 4)] else []) gaCls 83 2 12 false true true none (fun S _ => S = P) K0 cfg r
set_option maxRecDepth 100000 in
theorem t_L_whyNotExchange_0_82 (a : Int32) (b : Int32) (s : ga_M) (r : (Int32 ⊕ Nat) × ga_M) (h : f_L_whyNotExchange_0_82 a b s = some r) : T_L_whyNotExchange gaSH ga_kIX (0, [some (.ref 0), some (.int a), some (.int b), some (.ref 82), none], [], gaSH, s, 0, 0) r := (by
    rw [fe_L_whyNotExchange_0_82] at h
    exact ga_T_go (sp := ga_sp []) (ga_sp_T (fun _ h => nomatch h)) (n := 600) h)
abbrev T_L_whyNotMove {α : Type} (P : ga_S) (K0 : ga_O → Option α) (cfg : ga_C) (r : α) : Prop := ga_T RL cL_whyNotMove (ga_lk cl_L_whyNotMove) gaG gaCost (fun pc => bif Nat.beq pc 5 then [(3, 15, 4)] else []) gaCls 83 2 12 false true true none (fun S _ => S = P) K0 cfg r
set_option maxRecDepth 100000 in
theorem t_L_whyNotMove_0_82 (a : Int32) (b : Int32) (s : ga_M) (r : (Int32 ⊕ Nat) × ga_M) (h : f_L_whyNotMove_0_82 a b s = some r) : T_L_whyNotMove gaSH ga_kIX (0, [some (.ref 0), some (.int a), some (.int b), some (.ref 82), none], [], gaSH, s, 0, 0) r := (by
    rw [fe_L_whyNotMove_0_82] at h
    exact ga_T_go (sp := ga_sp []) (ga_sp_T (fun _ h => nomatch h)) (n := 600) h)
abbrev T_L_whyNotRoom {α : Type} (P : ga_S) (K0 : ga_O → Option α) (cfg : ga_C) (r : α) : Prop := ga_T RL cL_whyNotRoom (ga_lk cl_L_whyNotRoom) gaG gaCost (fun pc => bif Nat.beq pc 5 then [(3, 15, 4)] else []) gaCls 83 2 12 false true true none (fun S _ => S = P) K0 cfg r
set_option maxRecDepth 100000 in
theorem t_L_whyNotRoom_0_82 (a : Int32) (b : Int32) (s : ga_M) (r : (Int32 ⊕ Nat) × ga_M) (h : f_L_whyNotRoom_0_82 a b s = some r) : T_L_whyNotRoom gaSH ga_kIX (0, [some (.ref 0), some (.int a), some (.int b), some (.ref 82), none], [], gaSH, s, 0, 0) r := (by
    rw [fe_L_whyNotRoom_0_82] at h
    exact ga_T_go (sp := ga_sp []) (ga_sp_T (fun _ h => nomatch h)) (n := 600) h)
abbrev T_L_candidates {α : Type} (P : ga_S) (K0 : ga_O → Option α) (cfg : ga_C) (r : α) : Prop := ga_T RL cL_candidates (ga_lk cl_L_candidates) gaG gaCost (fun pc => bif Nat.beq pc 4 then [(3, 13, 3)] else []) gaCls 83 1 6 false true true none (fun S _ => S = P) K0 cfg r
set_option maxRecDepth 100000 in
theorem t_L_candidates_0_82 (a : Int32) (s : ga_M) (r : (Int32 ⊕ Nat) × ga_M) (h : f_L_candidates_0_82 a s = some r) : T_L_candidates gaSH ga_kIX (0, [some (.ref 0), some (.int a), some (.ref 82), none], [], gaSH, s, 0, 0) r := (by
    rw [fe_L_candidates_0_82] at h
    exact ga_T_go (sp := ga_sp []) (ga_sp_T (fun _ h => nomatch h)) (n := 600) h)
abbrev T_L_chain {α : Type} (P : ga_S) (K0 : ga_O → Option α) (cfg : ga_C) (r : α) : Prop := ga_T RL cL_chain (ga_lk cl_L_chain) gaG gaCost (fun pc => bif Nat.beq pc 4 then [(3, 13, 3)] else []) gaCls 83 1 6 false true true none (fun S _ => S = P) K0 cfg r
set_option maxRecDepth 100000 in
theorem t_L_chain_0_82 (a : Int32) (s : ga_M) (r : (Int32 ⊕ Nat) × ga_M) (h : f_L_chain_0_82 a s = some r) : T_L_chain gaSH ga_kIX (0, [some (.ref 0), some (.int a), some (.ref 82), none], [], gaSH, s, 0, 0) r := (by
    rw [fe_L_chain_0_82] at h
    exact ga_T_go (sp := ga_sp []) (ga_sp_T (fun _ h => nomatch h)) (n := 600) h)
abbrev T_L_chainTeacher {α : Type} (P : ga_S) (K0 : ga_O → Option α) (cfg : ga_C) (r : α) : Prop := ga_T RL cL_chainTeacher (ga_lk cl_L_chainTeacher) gaG gaCost (fun pc => bif Nat.beq pc 5 then [(3, 15, 4), (4, 19, 4)] else []) gaCls 83 2 12 false true true none (fun S _ => S = P) K0 cfg r
set_option maxRecDepth 100000 in
theorem t_L_chainTeacher_0_82 (a : Int32) (b : Int32) (s : ga_M) (r : (Int32 ⊕ Nat) × ga_M) (h : f_L_chainTeacher_0_82 a b s = some r) : T_L_chainTeacher gaSH ga_kIX (0, [some (.ref 0), some (.int a), some (.int b), some (.ref 82), none], [], gaSH, s, 0, 0) r := (by
    rw [fe_L_chainTeacher_0_82] at h
    exact ga_T_go (sp := ga_sp []) (ga_sp_T (fun _ h => nomatch h)) (n := 600) h)
abbrev T_L_partners {α : Type} (P : ga_S) (K0 : ga_O → Option α) (cfg : ga_C) (r : α) : Prop := ga_T RL cL_partners (ga_lk cl_L_partners) gaG gaCost (fun pc => bif Nat.beq pc 4 then [(3, 13, 3)] else []) gaCls 83 1 6 false true true none (fun S _ => S = P) K0 cfg r
set_option maxRecDepth 100000 in
theorem t_L_partners_0_82 (a : Int32) (s : ga_M) (r : (Int32 ⊕ Nat) × ga_M) (h : f_L_partners_0_82 a s = some r) : T_L_partners gaSH ga_kIX (0, [some (.ref 0), some (.int a), some (.ref 82), none], [], gaSH, s, 0, 0) r := (by
    rw [fe_L_partners_0_82] at h
    exact ga_T_go (sp := ga_sp []) (ga_sp_T (fun _ h => nomatch h)) (n := 600) h)
abbrev T_L_firstPartner {α : Type} (P : ga_S) (K0 : ga_O → Option α) (cfg : ga_C) (r : α) : Prop := ga_T RL cL_firstPartner (ga_lk cl_L_firstPartner) gaG gaCost (fun pc => bif Nat.beq pc 4 then [(3, 13, 3), (4, 16, 3)] else []) gaCls 83 2 12 false true true none (fun S _ => S = P) K0 cfg r
set_option maxRecDepth 100000 in
theorem t_L_firstPartner_0_82 (a : Int32) (s : ga_M) (r : (Int32 ⊕ Nat) × ga_M) (h : f_L_firstPartner_0_82 a s = some r) : T_L_firstPartner gaSH ga_kIX (0, [some (.ref 0), some (.int a), some (.ref 82), none], [], gaSH, s, 0, 0) r := (by
    rw [fe_L_firstPartner_0_82] at h
    exact ga_T_go (sp := ga_sp []) (ga_sp_T (fun _ h => nomatch h)) (n := 600) h)
abbrev T_L_slotsFor {α : Type} (P : ga_S) (K0 : ga_O → Option α) (cfg : ga_C) (r : α) : Prop := ga_T RL cL_slotsFor (ga_lk cl_L_slotsFor) gaG gaCost (fun pc => bif Nat.beq pc 4 then [(3, 13, 3)] else []) gaCls 83 1 6 false true true none (fun S _ => S = P) K0 cfg r
set_option maxRecDepth 100000 in
theorem t_L_slotsFor_0_82 (a : Int32) (s : ga_M) (r : (Int32 ⊕ Nat) × ga_M) (h : f_L_slotsFor_0_82 a s = some r) : T_L_slotsFor gaSH ga_kIX (0, [some (.ref 0), some (.int a), some (.ref 82), none], [], gaSH, s, 0, 0) r := (by
    rw [fe_L_slotsFor_0_82] at h
    exact ga_T_go (sp := ga_sp []) (ga_sp_T (fun _ h => nomatch h)) (n := 600) h)
abbrev T_L_count {α : Type} (P : ga_S) (K0 : ga_O → Option α) (cfg : ga_C) (r : α) : Prop := ga_T RL cL_count (ga_lk cl_L_count) gaG gaCost (fun pc => bif Nat.beq pc 4 then [(2, 13, 3)] else []) gaCls 83 1 6 false true true none (fun S _ => S = P) K0 cfg r
set_option maxRecDepth 100000 in
theorem t_L_count_0_82 (a : Int32) (s : ga_M) (r : (Int32 ⊕ Nat) × ga_M) (h : f_L_count_0_82 a s = some r) : T_L_count gaSH ga_kIX (0, [some (.ref 0), some (.int a), some (.ref 82), none], [], gaSH, s, 0, 0) r := (by
    rw [fe_L_count_0_82] at h
    exact ga_T_go (sp := ga_sp []) (ga_sp_T (fun _ h => nomatch h)) (n := 600) h)
abbrev T_L_lesson {α : Type} (P : ga_S) (K0 : ga_O → Option α) (cfg : ga_C) (r : α) : Prop := ga_T RL cL_lesson (ga_lk cl_L_lesson) gaG gaCost (fun pc => bif Nat.beq pc 5 then [(3, 15, 4), (2, 19, 4)] else []) gaCls 83 2 12 false true true none (fun S _ => S = P) K0 cfg r
set_option maxRecDepth 100000 in
theorem t_L_lesson_0_82 (a : Int32) (b : Int32) (s : ga_M) (r : (Int32 ⊕ Nat) × ga_M) (h : f_L_lesson_0_82 a b s = some r) : T_L_lesson gaSH ga_kIX (0, [some (.ref 0), some (.int a), some (.int b), some (.ref 82), none], [], gaSH, s, 0, 0) r := (by
    rw [fe_L_lesson_0_82] at h
    exact ga_T_go (sp := ga_sp []) (ga_sp_T (fun _ h => nomatch h)) (n := 600) h)
abbrev T_L_teacher {α : Type} (P : ga_S) (K0 : ga_O → Option α) (cfg : ga_C) (r : α) : Prop := ga_T RL cL_teacher (ga_lk cl_L_teacher) gaG gaCost (fun pc => bif Nat.beq pc 5 then [(3, 15, 4), (2, 19, 4)] else []) gaCls 83 2 12 false true true none (fun S _ => S = P) K0 cfg r
set_option maxRecDepth 100000 in
theorem t_L_teacher_0_82 (a : Int32) (b : Int32) (s : ga_M) (r : (Int32 ⊕ Nat) × ga_M) (h : f_L_teacher_0_82 a b s = some r) : T_L_teacher gaSH ga_kIX (0, [some (.ref 0), some (.int a), some (.int b), some (.ref 82), none], [], gaSH, s, 0, 0) r := (by
    rw [fe_L_teacher_0_82] at h
    exact ga_T_go (sp := ga_sp []) (ga_sp_T (fun _ h => nomatch h)) (n := 600) h)
abbrev T_L_room {α : Type} (P : ga_S) (K0 : ga_O → Option α) (cfg : ga_C) (r : α) : Prop := ga_T RL cL_room (ga_lk cl_L_room) gaG gaCost (fun pc => bif Nat.beq pc 5 then [(3, 15, 4), (2, 19, 4)] else []) gaCls 83 2 12 false true true none (fun S _ => S = P) K0 cfg r
set_option maxRecDepth 100000 in
theorem t_L_room_0_82 (a : Int32) (b : Int32) (s : ga_M) (r : (Int32 ⊕ Nat) × ga_M) (h : f_L_room_0_82 a b s = some r) : T_L_room gaSH ga_kIX (0, [some (.ref 0), some (.int a), some (.int b), some (.ref 82), none], [], gaSH, s, 0, 0) r := (by
    rw [fe_L_room_0_82] at h
    exact ga_T_go (sp := ga_sp []) (ga_sp_T (fun _ h => nomatch h)) (n := 600) h)
abbrev T_L_subject {α : Type} (P : ga_S) (K0 : ga_O → Option α) (cfg : ga_C) (r : α) : Prop := ga_T RL cL_subject (ga_lk cl_L_subject) gaG gaCost (fun pc => bif Nat.beq pc 5 then [(3, 15, 4), (2, 19, 4)] else []) gaCls 83 1 6 false true true none (fun S _ => S = P) K0 cfg r
set_option maxRecDepth 100000 in
theorem t_L_subject_0_82 (a : Int32) (b : Int32) (s : ga_M) (r : (Int32 ⊕ Nat) × ga_M) (h : f_L_subject_0_82 a b s = some r) : T_L_subject gaSH ga_kIX (0, [some (.ref 0), some (.int a), some (.int b), some (.ref 82), none], [], gaSH, s, 0, 0) r := (by
    rw [fe_L_subject_0_82] at h
    exact ga_T_go (sp := ga_sp []) (ga_sp_T (fun _ h => nomatch h)) (n := 600) h)
abbrev T_L_lessonOfClass {α : Type} (P : ga_S) (K0 : ga_O → Option α) (cfg : ga_C) (r : α) : Prop := ga_T RL cL_lessonOfClass (ga_lk cl_L_lessonOfClass) gaG gaCost (fun pc => bif Nat.beq pc 5 then [(3, 15, 4)] else []) gaCls 83 2 12 false true true none (fun S _ => S = P) K0 cfg r
set_option maxRecDepth 100000 in
theorem t_L_lessonOfClass_0_82 (a : Int32) (b : Int32) (s : ga_M) (r : (Int32 ⊕ Nat) × ga_M) (h : f_L_lessonOfClass_0_82 a b s = some r) : T_L_lessonOfClass gaSH ga_kIX (0, [some (.ref 0), some (.int a), some (.int b), some (.ref 82), none], [], gaSH, s, 0, 0) r := (by
    rw [fe_L_lessonOfClass_0_82] at h
    exact ga_T_go (sp := ga_sp []) (ga_sp_T (fun _ h => nomatch h)) (n := 600) h)
abbrev T_L_lessonOfTeacher {α : Type} (P : ga_S) (K0 : ga_O → Option α) (cfg : ga_C) (r : α) : Prop := ga_T RL cL_lessonOfTeacher (ga_lk cl_L_lessonOfTeacher) gaG gaCost (fun pc => bif Nat.beq pc 5 then [(3, 15, 4)] else []) gaCls 83 2 12 false true true none (fun S _ => S = P) K0 cfg r
set_option maxRecDepth 100000 in
theorem t_L_lessonOfTeacher_0_82 (a : Int32) (b : Int32) (s : ga_M) (r : (Int32 ⊕ Nat) × ga_M) (h : f_L_lessonOfTeacher_0_82 a b s = some r) : T_L_lessonOfTeacher gaSH ga_kIX (0, [some (.ref 0), some (.int a), some (.int b), some (.ref 82), none], [], gaSH, s, 0, 0) r := (by
    rw [fe_L_lessonOfTeacher_0_82] at h
    exact ga_T_go (sp := ga_sp []) (ga_sp_T (fun _ h => nomatch h)) (n := 600) h)
abbrev T_L_lessonInRoom {α : Type} (P : ga_S) (K0 : ga_O → Option α) (cfg : ga_C) (r : α) : Prop := ga_T RL cL_lessonInRoom (ga_lk cl_L_lessonInRoom) gaG gaCost (fun pc => bif Nat.beq pc 5 then [(3, 15, 4)] else []) gaCls 83 2 12 false true true none (fun S _ => S = P) K0 cfg r
set_option maxRecDepth 100000 in
theorem t_L_lessonInRoom_0_82 (a : Int32) (b : Int32) (s : ga_M) (r : (Int32 ⊕ Nat) × ga_M) (h : f_L_lessonInRoom_0_82 a b s = some r) : T_L_lessonInRoom gaSH ga_kIX (0, [some (.ref 0), some (.int a), some (.int b), some (.ref 82), none], [], gaSH, s, 0, 0) r := (by
    rw [fe_L_lessonInRoom_0_82] at h
    exact ga_T_go (sp := ga_sp []) (ga_sp_T (fun _ h => nomatch h)) (n := 600) h)
abbrev T_L_freeTeachers {α : Type} (P : ga_S) (K0 : ga_O → Option α) (cfg : ga_C) (r : α) : Prop := ga_T RL cL_freeTeachers (ga_lk cl_L_freeTeachers) gaG gaCost (fun pc => bif Nat.beq pc 4 then [(3, 13, 3)] else []) gaCls 83 1 6 false true true none (fun S _ => S = P) K0 cfg r
set_option maxRecDepth 100000 in
theorem t_L_freeTeachers_0_82 (a : Int32) (s : ga_M) (r : (Int32 ⊕ Nat) × ga_M) (h : f_L_freeTeachers_0_82 a s = some r) : T_L_freeTeachers gaSH ga_kIX (0, [some (.ref 0), some (.int a), some (.ref 82), none], [], gaSH, s, 0, 0) r := (by
    rw [fe_L_freeTeachers_0_82] at h
    exact ga_T_go (sp := ga_sp []) (ga_sp_T (fun _ h => nomatch h)) (n := 600) h)
abbrev T_L_freeRooms {α : Type} (P : ga_S) (K0 : ga_O → Option α) (cfg : ga_C) (r : α) : Prop := ga_T RL cL_freeRooms (ga_lk cl_L_freeRooms) gaG gaCost (fun pc => bif Nat.beq pc 5 then [(3, 15, 4), (2, 19, 4)] else []) gaCls 83 2 12 false true true none (fun S _ => S = P) K0 cfg r
set_option maxRecDepth 100000 in
theorem t_L_freeRooms_0_82 (a : Int32) (b : Int32) (s : ga_M) (r : (Int32 ⊕ Nat) × ga_M) (h : f_L_freeRooms_0_82 a b s = some r) : T_L_freeRooms gaSH ga_kIX (0, [some (.ref 0), some (.int a), some (.int b), some (.ref 82), none], [], gaSH, s, 0, 0) r := (by
    rw [fe_L_freeRooms_0_82] at h
    exact ga_T_go (sp := ga_sp []) (ga_sp_T (fun _ h => nomatch h)) (n := 600) h)
abbrev T_L_openLesson {α : Type} (P : ga_S) (K0 : ga_O → Option α) (cfg : ga_C) (r : α) : Prop := ga_T RL cL_openLesson (ga_lk cl_L_openLesson) gaG gaCost (fun pc => bif Nat.beq pc 4 then [(4, 13, 3)] else []) gaCls 83 1 6 false true true none (fun S _ => S = P) K0 cfg r
set_option maxRecDepth 100000 in
theorem t_L_openLesson_0_82 (a : Int32) (s : ga_M) (r : (Int32 ⊕ Nat) × ga_M) (h : f_L_openLesson_0_82 a s = some r) : T_L_openLesson gaSH ga_kIX (0, [some (.ref 0), some (.int a), some (.ref 82), none], [], gaSH, s, 0, 0) r := (by
    rw [fe_L_openLesson_0_82] at h
    exact ga_T_go (sp := ga_sp []) (ga_sp_T (fun _ h => nomatch h)) (n := 600) h)
abbrev T_L_difference {α : Type} (P : ga_S) (K0 : ga_O → Option α) (cfg : ga_C) (r : α) : Prop := ga_T RL cL_difference (ga_lk cl_L_difference) gaG gaCost (fun pc => bif Nat.beq pc 4 then [(4, 13, 3)] else []) gaCls 83 1 6 false true true none (fun S _ => S = P) K0 cfg r
set_option maxRecDepth 100000 in
theorem t_L_difference_0_82 (a : Int32) (s : ga_M) (r : (Int32 ⊕ Nat) × ga_M) (h : f_L_difference_0_82 a s = some r) : T_L_difference gaSH ga_kIX (0, [some (.ref 0), some (.int a), some (.ref 82), none], [], gaSH, s, 0, 0) r := (by
    rw [fe_L_difference_0_82] at h
    exact ga_T_go (sp := ga_sp []) (ga_sp_T (fun _ h => nomatch h)) (n := 600) h)
abbrev T_L_windows {α : Type} (P : ga_S) (K0 : ga_O → Option α) (cfg : ga_C) (r : α) : Prop := ga_T RL cL_windows (ga_lk cl_L_windows) gaG gaCost (fun pc => bif Nat.beq pc 5 then [(3, 15, 4)] else []) gaCls 83 2 12 false true true none (fun S _ => S = P) K0 cfg r
set_option maxRecDepth 100000 in
theorem t_L_windows_0_82 (a : Int32) (b : Int32) (s : ga_M) (r : (Int32 ⊕ Nat) × ga_M) (h : f_L_windows_0_82 a b s = some r) : T_L_windows gaSH ga_kIX (0, [some (.ref 0), some (.int a), some (.int b), some (.ref 82), none], [], gaSH, s, 0, 0) r := (by
    rw [fe_L_windows_0_82] at h
    exact ga_T_go (sp := ga_sp []) (ga_sp_T (fun _ h => nomatch h)) (n := 600) h)
abbrev T_L_classWindows {α : Type} (P : ga_S) (K0 : ga_O → Option α) (cfg : ga_C) (r : α) : Prop := ga_T RL cL_classWindows (ga_lk cl_L_classWindows) gaG gaCost (fun pc => bif Nat.beq pc 5 then [(3, 15, 4)] else []) gaCls 83 2 12 false true true none (fun S _ => S = P) K0 cfg r
set_option maxRecDepth 100000 in
theorem t_L_classWindows_0_82 (a : Int32) (b : Int32) (s : ga_M) (r : (Int32 ⊕ Nat) × ga_M) (h : f_L_classWindows_0_82 a b s = some r) : T_L_classWindows gaSH ga_kIX (0, [some (.ref 0), some (.int a), some (.int b), some (.ref 82), none], [], gaSH, s, 0, 0) r := (by
    rw [fe_L_classWindows_0_82] at h
    exact ga_T_go (sp := ga_sp []) (ga_sp_T (fun _ h => nomatch h)) (n := 600) h)
abbrev T_L_writeReport {α : Type} (P : ga_S) (K0 : ga_O → Option α) (cfg : ga_C) (r : α) : Prop := ga_T RL cL_writeReport (ga_lk cl_L_writeReport) gaG gaCost (fun pc => bif Nat.beq pc 4 then [(3, 13, 3)] else []) gaCls 83 1 6 false true true none (fun S _ => S = P) K0 cfg r
set_option maxRecDepth 100000 in
theorem t_L_writeReport_0_82 (a : Int32) (s : ga_M) (r : (Int32 ⊕ Nat) × ga_M) (h : f_L_writeReport_0_82 a s = some r) : T_L_writeReport gaSH ga_kIX (0, [some (.ref 0), some (.int a), some (.ref 82), none], [], gaSH, s, 0, 0) r := (by
    rw [fe_L_writeReport_0_82] at h
    exact ga_T_go (sp := ga_sp []) (ga_sp_T (fun _ h => nomatch h)) (n := 600) h)
abbrev T_L_reportByte {α : Type} (P : ga_S) (K0 : ga_O → Option α) (cfg : ga_C) (r : α) : Prop := ga_T RL cL_reportByte (ga_lk cl_L_reportByte) gaG gaCost (fun pc => bif Nat.beq pc 4 then [(3, 13, 3)] else []) gaCls 83 1 6 false true true none (fun S _ => S = P) K0 cfg r
set_option maxRecDepth 100000 in
theorem t_L_reportByte_0_82 (a : Int32) (s : ga_M) (r : (Int32 ⊕ Nat) × ga_M) (h : f_L_reportByte_0_82 a s = some r) : T_L_reportByte gaSH ga_kIX (0, [some (.ref 0), some (.int a), some (.ref 82), none], [], gaSH, s, 0, 0) r := (by
    rw [fe_L_reportByte_0_82] at h
    exact ga_T_go (sp := ga_sp []) (ga_sp_T (fun _ h => nomatch h)) (n := 600) h)
abbrev T_L_undo {α : Type} (P : ga_S) (K0 : ga_O → Option α) (cfg : ga_C) (r : α) : Prop := ga_T RL cL_undo (ga_lk cl_L_undo) gaG gaCost (fun pc => bif Nat.beq pc 3 then [(1, 12, 2)] else []) gaCls 83 1 6 false true true none (fun S _ => S = P) K0 cfg r
set_option maxRecDepth 100000 in
theorem t_L_undo_0_82 (s : ga_M) (r : (Int32 ⊕ Nat) × ga_M) (h : f_L_undo_0_82 s = some r) : T_L_undo gaSH ga_kIX (0, [some (.ref 0), some (.ref 82), none], [], gaSH, s, 0, 0) r := (by
    rw [fe_L_undo_0_82] at h
    exact ga_T_go (sp := ga_sp []) (ga_sp_T (fun _ h => nomatch h)) (n := 600) h)
