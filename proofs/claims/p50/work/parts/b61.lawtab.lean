noncomputable section
def cw_L_cover {α : Type} (as : List Value) (S : ga_S) (s : ga_M) (K : ga_O → Option α) : Option α := match as with
  | [.ref r0, .int a, .int b] => bif Nat.beq r0 0 then (f_L_cover_0 a b s).bind fun q => Sum.elim (fun x => K (.inl (some (.int x)), S, q.2)) (fun _ => none) q.1 else none
  | _ => none
def cw_L_supervise {α : Type} (as : List Value) (S : ga_S) (s : ga_M) (K : ga_O → Option α) : Option α := match as with
  | [.ref r0, .int a, .int b] => bif Nat.beq r0 0 then (f_L_supervise_0 a b s).bind fun q => Sum.elim (fun x => K (.inl (some (.int x)), S, q.2)) (fun _ => none) q.1 else none
  | _ => none
def cw_L_repair {α : Type} (as : List Value) (S : ga_S) (s : ga_M) (K : ga_O → Option α) : Option α := match as with
  | [.ref r0, .int a] => bif Nat.beq r0 0 then (f_L_repair_0 a s).bind fun q => Sum.elim (fun x => K (.inl (some (.int x)), S, q.2)) (fun _ => none) q.1 else none
  | _ => none
def cw_L_exchange {α : Type} (as : List Value) (S : ga_S) (s : ga_M) (K : ga_O → Option α) : Option α := match as with
  | [.ref r0, .int a, .int b] => bif Nat.beq r0 0 then (f_L_exchange_0 a b s).bind fun q => Sum.elim (fun x => K (.inl (some (.int x)), S, q.2)) (fun _ => none) q.1 else none
  | _ => none
def cw_L_move {α : Type} (as : List Value) (S : ga_S) (s : ga_M) (K : ga_O → Option α) : Option α := match as with
  | [.ref r0, .int a, .int b] => bif Nat.beq r0 0 then (f_L_move_0 a b s).bind fun q => Sum.elim (fun x => K (.inl (some (.int x)), S, q.2)) (fun _ => none) q.1 else none
  | _ => none
def cw_L_setRoom {α : Type} (as : List Value) (S : ga_S) (s : ga_M) (K : ga_O → Option α) : Option α := match as with
  | [.ref r0, .int a, .int b] => bif Nat.beq r0 0 then (f_L_setRoom_0 a b s).bind fun q => Sum.elim (fun x => K (.inl (some (.int x)), S, q.2)) (fun _ => none) q.1 else none
  | _ => none
def cw_L_reopen {α : Type} (as : List Value) (S : ga_S) (s : ga_M) (K : ga_O → Option α) : Option α := match as with
  | [.ref r0, .int a] => bif Nat.beq r0 0 then (f_L_reopen_0 a s).bind fun q => Sum.elim (fun x => K (.inl (some (.int x)), S, q.2)) (fun _ => none) q.1 else none
  | _ => none
def gaLawL : ga_G := fun α mid as S s K => bif Nat.blt mid 441 then (bif Nat.blt mid 439 then (bif Nat.beq mid 438 then cw_L_cover as S s K else none) else (bif Nat.blt mid 440 then (bif Nat.beq mid 439 then cw_L_supervise as S s K else none) else (bif Nat.beq mid 440 then cw_L_repair as S s K else none))) else (bif Nat.blt mid 443 then (bif Nat.blt mid 442 then (bif Nat.beq mid 441 then cw_L_exchange as S s K else none) else (bif Nat.beq mid 442 then cw_L_move as S s K else none)) else (bif Nat.blt mid 444 then (bif Nat.beq mid 443 then cw_L_setRoom as S s K else none) else (bif Nat.beq mid 444 then cw_L_reopen as S s K else none)))
def cw_L_cell (xs : Nat → Int32) (LN : Nat) {α : Type} (as : List Value) (S : ga_S) (s : ga_M) (K : ga_O → Option α) : Option α := match as with
  | [.ref r0, .int a] => bif Nat.beq r0 999 then (gw_cell xs LN a s).bind fun x => K (.inl (some (.int x)), S, s) else none
  | _ => none
def cw_L_type {α : Type} (as : List Value) (S : ga_S) (s : ga_M) (K : ga_O → Option α) : Option α := match as with
  | [.ref r0, .ref r1] => bif Nat.beq r0 0 && (Nat.beq r1 1024 && gk_eq S gkB_X11_init_0) then (f_L_type s).bind fun s1 => K (.inl none, gaSH, s1) else none
  | _ => none
def cw_L_holds {α : Type} (as : List Value) (S : ga_S) (s : ga_M) (K : ga_O → Option α) : Option α := match as with
  | [.ref r0] => bif Nat.beq r0 0 then (f_L_holds s).bind fun q => K (.inl (some (.int q.1)), S, q.2) else none
  | _ => none
def gaLaw (xs : Nat → Int32) (LN : Nat) : ga_G := fun α mid as S s K => bif Nat.blt mid 438 then (bif gk_eq S gaSH then gaG α mid as S s K else none) else (bif Nat.blt mid 445 then (bif gk_eq S gaSH then gaLawL α mid as S s K else none) else (bif Nat.beq mid 457 then (bif gk_eq S gaSH then cw_L_cell xs LN as S s K else none) else (bif Nat.beq mid 458 then cw_L_type as S s K else (bif Nat.beq mid 459 then (bif gk_eq S gaSH then cw_L_holds as S s K else none) else gaK α mid as S s K))))
def gaCostW : Nat → Nat × Nat := fun mid => bif Nat.beq mid 458 then (265, 1578) else (bif Nat.beq mid 459 then (592, 3552) else gaCostK mid)
theorem gw_ge_L_cover (as : List Value) (S : ga_S) (s : ga_M) : ge_N (fun _ => True) (fun α K => cw_L_cover as S s K) := by
  unfold cw_L_cover
  split
  · exact ge_cond (ge_bind (fun q => by obtain ⟨q1 | q1, q2⟩ := q; exact ge_K trivial; exact ge_none)) ge_none
  · exact ge_none
theorem gw_ge_L_supervise (as : List Value) (S : ga_S) (s : ga_M) : ge_N (fun _ => True) (fun α K => cw_L_supervise as S s K) := by
  unfold cw_L_supervise
  split
  · exact ge_cond (ge_bind (fun q => by obtain ⟨q1 | q1, q2⟩ := q; exact ge_K trivial; exact ge_none)) ge_none
  · exact ge_none
theorem gw_ge_L_repair (as : List Value) (S : ga_S) (s : ga_M) : ge_N (fun _ => True) (fun α K => cw_L_repair as S s K) := by
  unfold cw_L_repair
  split
  · exact ge_cond (ge_bind (fun q => by obtain ⟨q1 | q1, q2⟩ := q; exact ge_K trivial; exact ge_none)) ge_none
  · exact ge_none
theorem gw_ge_L_exchange (as : List Value) (S : ga_S) (s : ga_M) : ge_N (fun _ => True) (fun α K => cw_L_exchange as S s K) := by
  unfold cw_L_exchange
  split
  · exact ge_cond (ge_bind (fun q => by obtain ⟨q1 | q1, q2⟩ := q; exact ge_K trivial; exact ge_none)) ge_none
  · exact ge_none
theorem gw_ge_L_move (as : List Value) (S : ga_S) (s : ga_M) : ge_N (fun _ => True) (fun α K => cw_L_move as S s K) := by
  unfold cw_L_move
  split
  · exact ge_cond (ge_bind (fun q => by obtain ⟨q1 | q1, q2⟩ := q; exact ge_K trivial; exact ge_none)) ge_none
  · exact ge_none
theorem gw_ge_L_setRoom (as : List Value) (S : ga_S) (s : ga_M) : ge_N (fun _ => True) (fun α K => cw_L_setRoom as S s K) := by
  unfold cw_L_setRoom
  split
  · exact ge_cond (ge_bind (fun q => by obtain ⟨q1 | q1, q2⟩ := q; exact ge_K trivial; exact ge_none)) ge_none
  · exact ge_none
theorem gw_ge_L_reopen (as : List Value) (S : ga_S) (s : ga_M) : ge_N (fun _ => True) (fun α K => cw_L_reopen as S s K) := by
  unfold cw_L_reopen
  split
  · exact ge_cond (ge_bind (fun q => by obtain ⟨q1 | q1, q2⟩ := q; exact ge_K trivial; exact ge_none)) ge_none
  · exact ge_none
theorem gw_ge_L_cell (xs : Nat → Int32) (LN : Nat) (as : List Value) (S : ga_S) (s : ga_M) : ge_N (fun _ => True) (fun α K => cw_L_cell xs LN as S s K) := by
  unfold cw_L_cell
  split
  · exact ge_cond (ge_bind (fun q => ge_K trivial)) ge_none
  · exact ge_none
theorem gw_ge_L_type (as : List Value) (S : ga_S) (s : ga_M) : ge_N (fun _ => True) (fun α K => cw_L_type as S s K) := by
  unfold cw_L_type
  split
  · exact ge_cond (ge_bind (fun q => ge_K trivial)) ge_none
  · exact ge_none
theorem gw_ge_L_holds (as : List Value) (S : ga_S) (s : ga_M) : ge_N (fun _ => True) (fun α K => cw_L_holds as S s K) := by
  unfold cw_L_holds
  split
  · exact ge_cond (ge_bind (fun q => ge_K trivial)) ge_none
  · exact ge_none
theorem ge_Lt (xs : Nat → Int32) (LN : Nat) (mid : Nat) (as : List Value) (S : ga_S) (s : ga_M) : ge_N (fun _ => True) (fun α K => gaLaw xs LN α mid as S s K) := ge_cond (ge_cond (gy_w (ge_G mid as S s) fun _ _ => trivial) ge_none) (ge_cond (ge_cond (ge_cond (ge_cond (ge_cond (gw_ge_L_cover as S s) ge_none) (ge_cond (ge_cond (gw_ge_L_supervise as S s) ge_none) (ge_cond (gw_ge_L_repair as S s) ge_none))) (ge_cond (ge_cond (ge_cond (gw_ge_L_exchange as S s) ge_none) (ge_cond (gw_ge_L_move as S s) ge_none)) (ge_cond (ge_cond (gw_ge_L_setRoom as S s) ge_none) (ge_cond (gw_ge_L_reopen as S s) ge_none)))) ge_none) (ge_cond (ge_cond (gw_ge_L_cell xs LN as S s) ge_none) (ge_cond (gw_ge_L_type as S s) (ge_cond (ge_cond (gw_ge_L_holds as S s) ge_none) (ge_Kt mid as S s)))))
theorem ge_Lg (xs : Nat → Int32) (LN : Nat) : ∀ (α : Type) mid as S σ (k : ga_O → Option α) o, gaLaw xs LN α mid as S σ k = some o → ∃ o1, gaLaw xs LN ga_O mid as S σ some = some o1 ∧ k o1 = some o := fun α mid as S σ k o h => (ge_Lt xs LN mid as S σ α k o h).elim fun o1 h1 => ⟨o1, h1.2⟩
def gw_cl0 : List (Nat × ga_E) := [(0, .new 18, 3, 11, 10, []),
  (3, .dup, 1, 0, 0, []),
  (4, .invokespecial 93, 3, 456, 1, []),
  (7, .astore_n 1, 1, 1, 0, []),
  (8, .aload_n 1, 1, 1, 0, []),
  (9, .ldc 94, 2, 1024, 0, []),
  (11, .invokestatic 96, 3, 458, 2, []),
  (14, .aload_n 1, 1, 1, 0, []),
  (15, .invokevirtual 102, 3, 49, 1, [(0, 11)]),
  (18, .bipush 7, 2, 0, 0, [(7, 0)]),
  (20, .if_icmp .ne 80, 3, 100, 0, []),
  (23, .aload_n 1, 1, 1, 0, []),
  (24, .iconst 0, 1, 0, 0, [(0, 0)]),
  (25, .invokevirtual 81, 3, 424, 2, [(0, 11)]),
  (28, .iconst 2, 1, 0, 0, [(2, 0)]),
  (29, .if_icmp .ne 71, 3, 100, 0, []),
  (32, .aload_n 1, 1, 1, 0, []),
  (33, .iconst 1, 1, 0, 0, [(1, 0)]),
  (34, .invokevirtual 81, 3, 424, 2, [(0, 11)]),
  (37, .iconst 3, 1, 0, 0, [(3, 0)]),
  (38, .if_icmp .ne 62, 3, 100, 0, []),
  (41, .aload_n 1, 1, 1, 0, []),
  (42, .iconst 1, 1, 0, 0, [(1, 0)]),
  (43, .iconst 1, 1, 0, 0, [(1, 0)]),
  (44, .invokevirtual 66, 3, 428, 3, [(0, 11)]),
  (47, .bipush 14, 2, 0, 0, [(14, 0)]),
  (49, .if_icmp .ne 51, 3, 100, 0, []),
  (52, .aload_n 1, 1, 1, 0, []),
  (53, .iconst 0, 1, 0, 0, [(0, 0)]),
  (54, .invokevirtual 105, 3, 433, 2, [(0, 11)]),
  (57, .bipush 10, 2, 0, 0, [(10, 0)]),
  (59, .if_icmp .ne 41, 3, 100, 0, []),
  (62, .aload_n 1, 1, 1, 0, []),
  (63, .iconst 0, 1, 0, 0, [(0, 0)]),
  (64, .iconst 0, 1, 0, 0, [(0, 0)]),
  (65, .invokevirtual 108, 3, 434, 3, [(0, 11)]),
  (68, .iconst 4, 1, 0, 0, [(4, 0)]),
  (69, .if_icmp .ne 31, 3, 100, 0, []),
  (72, .aload_n 1, 1, 1, 0, []),
  (73, .iconst 1, 1, 0, 0, [(1, 0)])]
def gw_cl1 : List (Nat × ga_E) := [(74, .iconst 0, 1, 0, 0, [(0, 0)]),
  (75, .invokevirtual 111, 3, 435, 3, [(0, 11)]),
  (78, .ifCond .ne 22, 3, 100, 0, []),
  (81, .aload_n 1, 1, 1, 0, []),
  (82, .bipush 9, 2, 0, 0, [(9, 0)]),
  (84, .invokevirtual 81, 3, 424, 2, [(0, 11)]),
  (87, .ifCond .ne 13, 3, 100, 0, []),
  (90, .aload_n 1, 1, 1, 0, []),
  (91, .iconst 0, 1, 0, 0, [(0, 0)]),
  (92, .iconst 3, 1, 0, 0, [(3, 0)]),
  (93, .invokevirtual 114, 3, 416, 3, [(0, 11)]),
  (96, .iconst 1, 1, 0, 0, [(1, 0)]),
  (97, .if_icmp .eq 5, 3, 102, 0, []),
  (100, .iconst 0, 1, 0, 0, [(0, 0)]),
  (101, .ireturn, 1, 0, 0, []),
  (102, .iconst 0, 1, 0, 0, [(0, 0)]),
  (103, .istore_n 2, 1, 2, 0, []),
  (104, .iconst 0, 1, 0, 0, [(0, 0)]),
  (105, .istore_n 3, 1, 3, 0, []),
  (106, .iload_n 3, 1, 3, 0, []),
  (107, .bipush 14, 2, 0, 0, [(14, 0)]),
  (109, .if_icmp .ge 1189, 3, 1298, 0, []),
  (112, .aload_n 0, 1, 0, 0, []),
  (113, .iload_n 3, 1, 3, 0, []),
  (114, .invokestatic 117, 3, 457, 2, []),
  (117, .istore 4, 2, 4, 0, []),
  (119, .iload 4, 2, 4, 0, []),
  (121, .iconst 4, 1, 0, 0, [(4, 0)]),
  (122, .iushr, 1, 0, 0, []),
  (123, .bipush 7, 2, 0, 0, [(7, 0)]),
  (125, .iand, 1, 0, 0, []),
  (126, .bipush 7, 2, 0, 0, [(7, 0)]),
  (128, .irem, 1, 0, 0, []),
  (129, .istore 5, 2, 5, 0, []),
  (131, .iload 4, 2, 4, 0, []),
  (133, .bipush 7, 2, 0, 0, [(7, 0)]),
  (135, .iushr, 1, 0, 0, []),
  (136, .bipush 7, 2, 0, 0, [(7, 0)]),
  (138, .iand, 1, 0, 0, []),
  (139, .bipush 7, 2, 0, 0, [(7, 0)])]
def gw_cl2 : List (Nat × ga_E) := [(141, .irem, 1, 0, 0, []),
  (142, .istore 6, 2, 6, 0, []),
  (144, .iload 4, 2, 4, 0, []),
  (146, .bipush 10, 2, 0, 0, [(10, 0)]),
  (148, .iushr, 1, 0, 0, []),
  (149, .iconst 3, 1, 0, 0, [(3, 0)]),
  (150, .iand, 1, 0, 0, []),
  (151, .istore 7, 2, 7, 0, []),
  (153, .iload 4, 2, 4, 0, []),
  (155, .bipush 12, 2, 0, 0, [(12, 0)]),
  (157, .iushr, 1, 0, 0, []),
  (158, .bipush 7, 2, 0, 0, [(7, 0)]),
  (160, .iand, 1, 0, 0, []),
  (161, .bipush 6, 2, 0, 0, [(6, 0)]),
  (163, .irem, 1, 0, 0, []),
  (164, .istore 8, 2, 8, 0, []),
  (166, .iload 4, 2, 4, 0, []),
  (168, .bipush 15, 2, 0, 0, [(15, 0)]),
  (170, .iushr, 1, 0, 0, []),
  (171, .iconst 3, 1, 0, 0, [(3, 0)]),
  (172, .iand, 1, 0, 0, []),
  (173, .iconst 3, 1, 0, 0, [(3, 0)]),
  (174, .irem, 1, 0, 0, []),
  (175, .istore 9, 2, 9, 0, []),
  (177, .aload_n 1, 1, 1, 0, []),
  (178, .iload 5, 2, 5, 0, []),
  (180, .iconst 0, 1, 0, 0, [(0, 0)]),
  (181, .invokevirtual 51, 3, 425, 3, [(0, 11)]),
  (184, .istore 10, 2, 10, 0, []),
  (186, .aload_n 1, 1, 1, 0, []),
  (187, .iload 5, 2, 5, 0, []),
  (189, .iconst 3, 1, 0, 0, [(3, 0)]),
  (190, .invokevirtual 51, 3, 425, 3, [(0, 11)]),
  (193, .istore 11, 2, 11, 0, []),
  (195, .aload_n 1, 1, 1, 0, []),
  (196, .bipush 7, 2, 0, 0, [(7, 0)]),
  (198, .invokevirtual 81, 3, 424, 2, [(0, 11)]),
  (201, .istore 12, 2, 12, 0, []),
  (203, .aload_n 1, 1, 1, 0, []),
  (204, .bipush 8, 2, 0, 0, [(8, 0)])]
def gw_cl3 : List (Nat × ga_E) := [(206, .invokevirtual 81, 3, 424, 2, [(0, 11)]),
  (209, .istore 13, 2, 13, 0, []),
  (211, .aload_n 1, 1, 1, 0, []),
  (212, .bipush 9, 2, 0, 0, [(9, 0)]),
  (214, .invokevirtual 81, 3, 424, 2, [(0, 11)]),
  (217, .istore 14, 2, 14, 0, []),
  (219, .aload_n 1, 1, 1, 0, []),
  (220, .iconst 0, 1, 0, 0, [(0, 0)]),
  (221, .invokevirtual 121, 3, 436, 2, [(0, 11)]),
  (224, .istore 15, 2, 15, 0, []),
  (226, .aload_n 1, 1, 1, 0, []),
  (227, .iload 7, 2, 7, 0, []),
  (229, .iconst 4, 1, 0, 0, [(4, 0)]),
  (230, .invokevirtual 69, 3, 426, 3, [(0, 11)]),
  (233, .istore 16, 2, 16, 0, []),
  (235, .iconst 1, 1, 0, 0, [(1, 0)]),
  (236, .istore 18, 2, 18, 0, []),
  (238, .iload 4, 2, 4, 0, []),
  (240, .bipush 15, 2, 0, 0, [(15, 0)]),
  (242, .iand, 1, 0, 0, []),
  (243, .tableswitch 883 0 14 #[73, 73, 73, 171, 171, 259, 353, 353, 509, 531, 531, 643, 643, 735, 820], 73, 1126, 0, [(0, 316), (1, 316), (2, 316), (3, 414), (4, 414), (5, 502), (6, 596), (7, 596), (8, 752), (9, 774), (10, 774), (11, 886), (12, 886), (13, 978), (14, 1063)]),
  (316, .iload 4, 2, 4, 0, []),
  (318, .bipush 17, 2, 0, 0, [(17, 0)]),
  (320, .iushr, 1, 0, 0, []),
  (321, .iconst 1, 1, 0, 0, [(1, 0)]),
  (322, .iand, 1, 0, 0, []),
  (323, .istore 19, 2, 19, 0, []),
  (325, .aload_n 1, 1, 1, 0, []),
  (326, .iload 7, 2, 7, 0, []),
  (328, .iconst 2, 1, 0, 0, [(2, 0)]),
  (329, .invokevirtual 69, 3, 426, 3, [(0, 11)]),
  (332, .istore 20, 2, 20, 0, []),
  (334, .iload 4, 2, 4, 0, []),
  (336, .bipush 18, 2, 0, 0, [(18, 0)]),
  (338, .iushr, 1, 0, 0, []),
  (339, .iconst 3, 1, 0, 0, [(3, 0)]),
  (340, .iand, 1, 0, 0, []),
  (341, .ifCond .le 7, 3, 348, 0, []),
  (344, .iconst 1, 1, 0, 0, [(1, 0)]),
  (345, .goto 4, 3, 349, 0, [])]
def gw_cl4 : List (Nat × ga_E) := [(348, .iconst 0, 1, 0, 0, [(0, 0)]),
  (349, .istore 21, 2, 21, 0, []),
  (351, .aload_n 1, 1, 1, 0, []),
  (352, .iload 7, 2, 7, 0, []),
  (354, .iload 19, 2, 19, 0, []),
  (356, .iload 21, 2, 21, 0, []),
  (358, .invokevirtual 124, 3, 404, 4, [(0, 11)]),
  (361, .istore 17, 2, 17, 0, []),
  (363, .aload_n 1, 1, 1, 0, []),
  (364, .bipush 7, 2, 0, 0, [(7, 0)]),
  (366, .invokevirtual 81, 3, 424, 2, [(0, 11)]),
  (369, .iload 12, 2, 12, 0, []),
  (371, .iload 17, 2, 17, 0, []),
  (373, .iadd, 1, 0, 0, []),
  (374, .if_icmp .ne 38, 3, 412, 0, []),
  (377, .aload_n 1, 1, 1, 0, []),
  (378, .iload 7, 2, 7, 0, []),
  (380, .iconst 2, 1, 0, 0, [(2, 0)]),
  (381, .invokevirtual 69, 3, 426, 3, [(0, 11)]),
  (384, .iload 19, 2, 19, 0, []),
  (386, .ishr, 1, 0, 0, []),
  (387, .iconst 1, 1, 0, 0, [(1, 0)]),
  (388, .iand, 1, 0, 0, []),
  (389, .iload 21, 2, 21, 0, []),
  (391, .ifCond .eq 7, 3, 398, 0, []),
  (394, .iconst 1, 1, 0, 0, [(1, 0)]),
  (395, .goto 4, 3, 399, 0, []),
  (398, .iconst 0, 1, 0, 0, [(0, 0)]),
  (399, .if_icmp .ne 13, 3, 412, 0, []),
  (402, .iload 21, 2, 21, 0, []),
  (404, .ifCond .ne 761, 3, 1165, 0, []),
  (407, .iload 17, 2, 17, 0, []),
  (409, .ifCond .eq 756, 3, 1165, 0, []),
  (412, .iconst 0, 1, 0, 0, [(0, 0)]),
  (413, .ireturn, 1, 0, 0, []),
  (414, .aload_n 1, 1, 1, 0, []),
  (415, .iload 5, 2, 5, 0, []),
  (417, .iload 7, 2, 7, 0, []),
  (419, .invokevirtual 114, 3, 416, 3, [(0, 11)]),
  (422, .istore 19, 2, 19, 0, [])]
def gw_cl5 : List (Nat × ga_E) := [(424, .aload_n 1, 1, 1, 0, []),
  (425, .iload 5, 2, 5, 0, []),
  (427, .iload 7, 2, 7, 0, []),
  (429, .invokestatic 128, 3, 438, 3, []),
  (432, .istore 17, 2, 17, 0, []),
  (434, .iload 17, 2, 17, 0, []),
  (436, .sipush (-1000), 3, 0, 0, [(-1000, 0)]),
  (439, .if_icmp .le 7, 3, 446, 0, []),
  (442, .iconst 1, 1, 0, 0, [(1, 0)]),
  (443, .goto 4, 3, 447, 0, []),
  (446, .iconst 0, 1, 0, 0, [(0, 0)]),
  (447, .istore 18, 2, 18, 0, []),
  (449, .iload 18, 2, 18, 0, []),
  (451, .iload 19, 2, 19, 0, []),
  (453, .ifCond .ne 7, 3, 460, 0, []),
  (456, .iconst 1, 1, 0, 0, [(1, 0)]),
  (457, .goto 4, 3, 461, 0, []),
  (460, .iconst 0, 1, 0, 0, [(0, 0)]),
  (461, .if_icmp .ne 39, 3, 500, 0, []),
  (464, .iload 18, 2, 18, 0, []),
  (466, .ifCond .eq 699, 3, 1165, 0, []),
  (469, .iload 17, 2, 17, 0, []),
  (471, .iload 16, 2, 16, 0, []),
  (473, .iconst 1, 1, 0, 0, [(1, 0)]),
  (474, .iadd, 1, 0, 0, []),
  (475, .if_icmp .ne 25, 3, 500, 0, []),
  (478, .aload_n 1, 1, 1, 0, []),
  (479, .iload 5, 2, 5, 0, []),
  (481, .iconst 3, 1, 0, 0, [(3, 0)]),
  (482, .invokevirtual 51, 3, 425, 3, [(0, 11)]),
  (485, .iload 7, 2, 7, 0, []),
  (487, .if_icmp .ne 13, 3, 500, 0, []),
  (490, .aload_n 1, 1, 1, 0, []),
  (491, .iload 5, 2, 5, 0, []),
  (493, .iconst 5, 1, 0, 0, [(5, 0)]),
  (494, .invokevirtual 51, 3, 425, 3, [(0, 11)]),
  (497, .ifCond .eq 668, 3, 1165, 0, []),
  (500, .iconst 0, 1, 0, 0, [(0, 0)]),
  (501, .ireturn, 1, 0, 0, []),
  (502, .aload_n 1, 1, 1, 0, [])]
def gw_cl6 : List (Nat × ga_E) := [(503, .iload 5, 2, 5, 0, []),
  (505, .iload 7, 2, 7, 0, []),
  (507, .invokevirtual 131, 3, 417, 3, [(0, 11)]),
  (510, .istore 19, 2, 19, 0, []),
  (512, .aload_n 1, 1, 1, 0, []),
  (513, .iload 5, 2, 5, 0, []),
  (515, .iload 7, 2, 7, 0, []),
  (517, .invokestatic 134, 3, 439, 3, []),
  (520, .istore 17, 2, 17, 0, []),
  (522, .iload 17, 2, 17, 0, []),
  (524, .sipush (-1000), 3, 0, 0, [(-1000, 0)]),
  (527, .if_icmp .le 7, 3, 534, 0, []),
  (530, .iconst 1, 1, 0, 0, [(1, 0)]),
  (531, .goto 4, 3, 535, 0, []),
  (534, .iconst 0, 1, 0, 0, [(0, 0)]),
  (535, .istore 18, 2, 18, 0, []),
  (537, .iload 18, 2, 18, 0, []),
  (539, .iload 19, 2, 19, 0, []),
  (541, .ifCond .ne 7, 3, 548, 0, []),
  (544, .iconst 1, 1, 0, 0, [(1, 0)]),
  (545, .goto 4, 3, 549, 0, []),
  (548, .iconst 0, 1, 0, 0, [(0, 0)]),
  (549, .if_icmp .ne 45, 3, 594, 0, []),
  (552, .iload 18, 2, 18, 0, []),
  (554, .ifCond .eq 611, 3, 1165, 0, []),
  (557, .iload 17, 2, 17, 0, []),
  (559, .aload_n 1, 1, 1, 0, []),
  (560, .iload 7, 2, 7, 0, []),
  (562, .iconst 5, 1, 0, 0, [(5, 0)]),
  (563, .invokevirtual 69, 3, 426, 3, [(0, 11)]),
  (566, .if_icmp .ne 28, 3, 594, 0, []),
  (569, .aload_n 1, 1, 1, 0, []),
  (570, .iload 5, 2, 5, 0, []),
  (572, .iconst 3, 1, 0, 0, [(3, 0)]),
  (573, .invokevirtual 51, 3, 425, 3, [(0, 11)]),
  (576, .iload 7, 2, 7, 0, []),
  (578, .if_icmp .ne 16, 3, 594, 0, []),
  (581, .aload_n 1, 1, 1, 0, []),
  (582, .bipush 8, 2, 0, 0, [(8, 0)]),
  (584, .invokevirtual 81, 3, 424, 2, [(0, 11)])]
def gw_cl7 : List (Nat × ga_E) := [(587, .iload 13, 2, 13, 0, []),
  (589, .iconst 1, 1, 0, 0, [(1, 0)]),
  (590, .iadd, 1, 0, 0, []),
  (591, .if_icmp .eq 574, 3, 1165, 0, []),
  (594, .iconst 0, 1, 0, 0, [(0, 0)]),
  (595, .ireturn, 1, 0, 0, []),
  (596, .aload_n 1, 1, 1, 0, []),
  (597, .iload 5, 2, 5, 0, []),
  (599, .invokevirtual 72, 3, 421, 2, [(0, 11)]),
  (602, .istore 19, 2, 19, 0, []),
  (604, .iload 19, 2, 19, 0, []),
  (606, .ifCond .le 13, 3, 619, 0, []),
  (609, .aload_n 1, 1, 1, 0, []),
  (610, .iload 5, 2, 5, 0, []),
  (612, .iconst 0, 1, 0, 0, [(0, 0)]),
  (613, .invokevirtual 78, 3, 422, 3, [(0, 11)]),
  (616, .goto 4, 3, 620, 0, []),
  (619, .iconst (-1), 1, 0, 0, [(-1, 0)]),
  (620, .istore 20, 2, 20, 0, []),
  (622, .iload 19, 2, 19, 0, []),
  (624, .ifCond .le 16, 3, 640, 0, []),
  (627, .aload_n 1, 1, 1, 0, []),
  (628, .iload 5, 2, 5, 0, []),
  (630, .iload 19, 2, 19, 0, []),
  (632, .iconst 1, 1, 0, 0, [(1, 0)]),
  (633, .isub, 1, 0, 0, []),
  (634, .invokevirtual 78, 3, 422, 3, [(0, 11)]),
  (637, .goto 4, 3, 641, 0, []),
  (640, .iconst (-1), 1, 0, 0, [(-1, 0)]),
  (641, .istore 21, 2, 21, 0, []),
  (643, .iload 21, 2, 21, 0, []),
  (645, .ifCond .lt 13, 3, 658, 0, []),
  (648, .aload_n 1, 1, 1, 0, []),
  (649, .iload 21, 2, 21, 0, []),
  (651, .iconst 4, 1, 0, 0, [(4, 0)]),
  (652, .invokevirtual 69, 3, 426, 3, [(0, 11)]),
  (655, .goto 4, 3, 659, 0, []),
  (658, .iconst 0, 1, 0, 0, [(0, 0)]),
  (659, .istore 22, 2, 22, 0, []),
  (661, .aload_n 1, 1, 1, 0, [])]
def gw_cl8 : List (Nat × ga_E) := [(662, .iload 5, 2, 5, 0, []),
  (664, .invokestatic 136, 3, 440, 2, []),
  (667, .istore 17, 2, 17, 0, []),
  (669, .iload 17, 2, 17, 0, []),
  (671, .sipush (-1000), 3, 0, 0, [(-1000, 0)]),
  (674, .if_icmp .le 7, 3, 681, 0, []),
  (677, .iconst 1, 1, 0, 0, [(1, 0)]),
  (678, .goto 4, 3, 682, 0, []),
  (681, .iconst 0, 1, 0, 0, [(0, 0)]),
  (682, .istore 18, 2, 18, 0, []),
  (684, .iload 18, 2, 18, 0, []),
  (686, .iload 19, 2, 19, 0, []),
  (688, .ifCond .le 7, 3, 695, 0, []),
  (691, .iconst 1, 1, 0, 0, [(1, 0)]),
  (692, .goto 4, 3, 696, 0, []),
  (695, .iconst 0, 1, 0, 0, [(0, 0)]),
  (696, .if_icmp .ne 54, 3, 750, 0, []),
  (699, .iload 18, 2, 18, 0, []),
  (701, .ifCond .eq 464, 3, 1165, 0, []),
  (704, .iload 17, 2, 17, 0, []),
  (706, .iload 19, 2, 19, 0, []),
  (708, .if_icmp .ne 42, 3, 750, 0, []),
  (711, .aload_n 1, 1, 1, 0, []),
  (712, .iload 5, 2, 5, 0, []),
  (714, .iconst 3, 1, 0, 0, [(3, 0)]),
  (715, .invokevirtual 51, 3, 425, 3, [(0, 11)]),
  (718, .iload 20, 2, 20, 0, []),
  (720, .if_icmp .ne 30, 3, 750, 0, []),
  (723, .aload_n 1, 1, 1, 0, []),
  (724, .iload 21, 2, 21, 0, []),
  (726, .iconst 4, 1, 0, 0, [(4, 0)]),
  (727, .invokevirtual 69, 3, 426, 3, [(0, 11)]),
  (730, .iload 22, 2, 22, 0, []),
  (732, .iconst 1, 1, 0, 0, [(1, 0)]),
  (733, .iadd, 1, 0, 0, []),
  (734, .if_icmp .ne 16, 3, 750, 0, []),
  (737, .aload_n 1, 1, 1, 0, []),
  (738, .bipush 7, 2, 0, 0, [(7, 0)]),
  (740, .invokevirtual 81, 3, 424, 2, [(0, 11)]),
  (743, .iload 12, 2, 12, 0, [])]
def gw_cl9 : List (Nat × ga_E) := [(745, .iconst 1, 1, 0, 0, [(1, 0)]),
  (746, .isub, 1, 0, 0, []),
  (747, .if_icmp .eq 418, 3, 1165, 0, []),
  (750, .iconst 0, 1, 0, 0, [(0, 0)]),
  (751, .ireturn, 1, 0, 0, []),
  (752, .aload_n 1, 1, 1, 0, []),
  (753, .invokevirtual 139, 3, 82, 1, [(0, 11)]),
  (756, .istore 17, 2, 17, 0, []),
  (758, .aload_n 1, 1, 1, 0, []),
  (759, .bipush 7, 2, 0, 0, [(7, 0)]),
  (761, .invokevirtual 81, 3, 424, 2, [(0, 11)]),
  (764, .iload 12, 2, 12, 0, []),
  (766, .iload 17, 2, 17, 0, []),
  (768, .isub, 1, 0, 0, []),
  (769, .if_icmp .eq 396, 3, 1165, 0, []),
  (772, .iconst 0, 1, 0, 0, [(0, 0)]),
  (773, .ireturn, 1, 0, 0, []),
  (774, .aload_n 1, 1, 1, 0, []),
  (775, .iload 5, 2, 5, 0, []),
  (777, .iload 6, 2, 6, 0, []),
  (779, .invokevirtual 142, 3, 418, 3, [(0, 11)]),
  (782, .istore 19, 2, 19, 0, []),
  (784, .aload_n 1, 1, 1, 0, []),
  (785, .iload 6, 2, 6, 0, []),
  (787, .iconst 0, 1, 0, 0, [(0, 0)]),
  (788, .invokevirtual 51, 3, 425, 3, [(0, 11)]),
  (791, .istore 20, 2, 20, 0, []),
  (793, .aload_n 1, 1, 1, 0, []),
  (794, .iload 6, 2, 6, 0, []),
  (796, .iload 5, 2, 5, 0, []),
  (798, .invokevirtual 142, 3, 418, 3, [(0, 11)]),
  (801, .iload 19, 2, 19, 0, []),
  (803, .if_icmp .eq 5, 3, 808, 0, []),
  (806, .iconst 0, 1, 0, 0, [(0, 0)]),
  (807, .ireturn, 1, 0, 0, []),
  (808, .aload_n 1, 1, 1, 0, []),
  (809, .iload 5, 2, 5, 0, []),
  (811, .iload 6, 2, 6, 0, []),
  (813, .invokestatic 145, 3, 441, 3, []),
  (816, .istore 17, 2, 17, 0, [])]
def gw_cl10 : List (Nat × ga_E) := [(818, .iload 17, 2, 17, 0, []),
  (820, .sipush (-1000), 3, 0, 0, [(-1000, 0)]),
  (823, .if_icmp .le 7, 3, 830, 0, []),
  (826, .iconst 1, 1, 0, 0, [(1, 0)]),
  (827, .goto 4, 3, 831, 0, []),
  (830, .iconst 0, 1, 0, 0, [(0, 0)]),
  (831, .istore 18, 2, 18, 0, []),
  (833, .iload 18, 2, 18, 0, []),
  (835, .iload 19, 2, 19, 0, []),
  (837, .ifCond .ne 7, 3, 844, 0, []),
  (840, .iconst 1, 1, 0, 0, [(1, 0)]),
  (841, .goto 4, 3, 845, 0, []),
  (844, .iconst 0, 1, 0, 0, [(0, 0)]),
  (845, .if_icmp .ne 39, 3, 884, 0, []),
  (848, .iload 18, 2, 18, 0, []),
  (850, .ifCond .eq 315, 3, 1165, 0, []),
  (853, .iload 17, 2, 17, 0, []),
  (855, .iload 20, 2, 20, 0, []),
  (857, .if_icmp .ne 27, 3, 884, 0, []),
  (860, .aload_n 1, 1, 1, 0, []),
  (861, .iload 6, 2, 6, 0, []),
  (863, .iconst 0, 1, 0, 0, [(0, 0)]),
  (864, .invokevirtual 51, 3, 425, 3, [(0, 11)]),
  (867, .iload 10, 2, 10, 0, []),
  (869, .if_icmp .ne 15, 3, 884, 0, []),
  (872, .aload_n 1, 1, 1, 0, []),
  (873, .iload 5, 2, 5, 0, []),
  (875, .iconst 3, 1, 0, 0, [(3, 0)]),
  (876, .invokevirtual 51, 3, 425, 3, [(0, 11)]),
  (879, .iload 11, 2, 11, 0, []),
  (881, .if_icmp .eq 284, 3, 1165, 0, []),
  (884, .iconst 0, 1, 0, 0, [(0, 0)]),
  (885, .ireturn, 1, 0, 0, []),
  (886, .aload_n 1, 1, 1, 0, []),
  (887, .iload 5, 2, 5, 0, []),
  (889, .invokevirtual 147, 3, 423, 2, [(0, 11)]),
  (892, .iload 8, 2, 8, 0, []),
  (894, .ishr, 1, 0, 0, []),
  (895, .iconst 1, 1, 0, 0, [(1, 0)]),
  (896, .iand, 1, 0, 0, [])]
def gw_cl11 : List (Nat × ga_E) := [(897, .iconst 1, 1, 0, 0, [(1, 0)]),
  (898, .if_icmp .ne 7, 3, 905, 0, []),
  (901, .iconst 1, 1, 0, 0, [(1, 0)]),
  (902, .goto 4, 3, 906, 0, []),
  (905, .iconst 0, 1, 0, 0, [(0, 0)]),
  (906, .istore 19, 2, 19, 0, []),
  (908, .aload_n 1, 1, 1, 0, []),
  (909, .iload 5, 2, 5, 0, []),
  (911, .iload 8, 2, 8, 0, []),
  (913, .invokestatic 150, 3, 442, 3, []),
  (916, .istore 17, 2, 17, 0, []),
  (918, .iload 17, 2, 17, 0, []),
  (920, .sipush (-1000), 3, 0, 0, [(-1000, 0)]),
  (923, .if_icmp .le 7, 3, 930, 0, []),
  (926, .iconst 1, 1, 0, 0, [(1, 0)]),
  (927, .goto 4, 3, 931, 0, []),
  (930, .iconst 0, 1, 0, 0, [(0, 0)]),
  (931, .istore 18, 2, 18, 0, []),
  (933, .iload 18, 2, 18, 0, []),
  (935, .iload 19, 2, 19, 0, []),
  (937, .if_icmp .ne 39, 3, 976, 0, []),
  (940, .iload 18, 2, 18, 0, []),
  (942, .ifCond .eq 223, 3, 1165, 0, []),
  (945, .iload 17, 2, 17, 0, []),
  (947, .iload 10, 2, 10, 0, []),
  (949, .if_icmp .ne 27, 3, 976, 0, []),
  (952, .aload_n 1, 1, 1, 0, []),
  (953, .iload 5, 2, 5, 0, []),
  (955, .iconst 0, 1, 0, 0, [(0, 0)]),
  (956, .invokevirtual 51, 3, 425, 3, [(0, 11)]),
  (959, .iload 8, 2, 8, 0, []),
  (961, .if_icmp .ne 15, 3, 976, 0, []),
  (964, .aload_n 1, 1, 1, 0, []),
  (965, .iload 5, 2, 5, 0, []),
  (967, .iconst 3, 1, 0, 0, [(3, 0)]),
  (968, .invokevirtual 51, 3, 425, 3, [(0, 11)]),
  (971, .iload 11, 2, 11, 0, []),
  (973, .if_icmp .eq 192, 3, 1165, 0, []),
  (976, .iconst 0, 1, 0, 0, [(0, 0)]),
  (977, .ireturn, 1, 0, 0, [])]
def gw_cl12 : List (Nat × ga_E) := [(978, .aload_n 1, 1, 1, 0, []),
  (979, .iload 5, 2, 5, 0, []),
  (981, .iload 9, 2, 9, 0, []),
  (983, .invokevirtual 152, 3, 419, 3, [(0, 11)]),
  (986, .istore 19, 2, 19, 0, []),
  (988, .aload_n 1, 1, 1, 0, []),
  (989, .iload 5, 2, 5, 0, []),
  (991, .iconst 4, 1, 0, 0, [(4, 0)]),
  (992, .invokevirtual 51, 3, 425, 3, [(0, 11)]),
  (995, .istore 20, 2, 20, 0, []),
  (997, .aload_n 1, 1, 1, 0, []),
  (998, .iload 5, 2, 5, 0, []),
  (1000, .iload 9, 2, 9, 0, []),
  (1002, .invokestatic 155, 3, 443, 3, []),
  (1005, .istore 17, 2, 17, 0, []),
  (1007, .iload 17, 2, 17, 0, []),
  (1009, .sipush (-1000), 3, 0, 0, [(-1000, 0)]),
  (1012, .if_icmp .le 7, 3, 1019, 0, []),
  (1015, .iconst 1, 1, 0, 0, [(1, 0)]),
  (1016, .goto 4, 3, 1020, 0, []),
  (1019, .iconst 0, 1, 0, 0, [(0, 0)]),
  (1020, .istore 18, 2, 18, 0, []),
  (1022, .iload 18, 2, 18, 0, []),
  (1024, .iload 19, 2, 19, 0, []),
  (1026, .ifCond .ne 7, 3, 1033, 0, []),
  (1029, .iconst 1, 1, 0, 0, [(1, 0)]),
  (1030, .goto 4, 3, 1034, 0, []),
  (1033, .iconst 0, 1, 0, 0, [(0, 0)]),
  (1034, .if_icmp .ne 27, 3, 1061, 0, []),
  (1037, .iload 18, 2, 18, 0, []),
  (1039, .ifCond .eq 126, 3, 1165, 0, []),
  (1042, .iload 17, 2, 17, 0, []),
  (1044, .iload 20, 2, 20, 0, []),
  (1046, .if_icmp .ne 15, 3, 1061, 0, []),
  (1049, .aload_n 1, 1, 1, 0, []),
  (1050, .iload 5, 2, 5, 0, []),
  (1052, .iconst 4, 1, 0, 0, [(4, 0)]),
  (1053, .invokevirtual 51, 3, 425, 3, [(0, 11)]),
  (1056, .iload 9, 2, 9, 0, []),
  (1058, .if_icmp .eq 107, 3, 1165, 0, [])]
def gw_cl13 : List (Nat × ga_E) := [(1061, .iconst 0, 1, 0, 0, [(0, 0)]),
  (1062, .ireturn, 1, 0, 0, []),
  (1063, .aload_n 1, 1, 1, 0, []),
  (1064, .iload 5, 2, 5, 0, []),
  (1066, .invokestatic 157, 3, 444, 2, []),
  (1069, .istore 17, 2, 17, 0, []),
  (1071, .iload 17, 2, 17, 0, []),
  (1073, .sipush (-1000), 3, 0, 0, [(-1000, 0)]),
  (1076, .if_icmp .le 7, 3, 1083, 0, []),
  (1079, .iconst 1, 1, 0, 0, [(1, 0)]),
  (1080, .goto 4, 3, 1084, 0, []),
  (1083, .iconst 0, 1, 0, 0, [(0, 0)]),
  (1084, .istore 18, 2, 18, 0, []),
  (1086, .iload 18, 2, 18, 0, []),
  (1088, .iload 11, 2, 11, 0, []),
  (1090, .ifCond .lt 7, 3, 1097, 0, []),
  (1093, .iconst 1, 1, 0, 0, [(1, 0)]),
  (1094, .goto 4, 3, 1098, 0, []),
  (1097, .iconst 0, 1, 0, 0, [(0, 0)]),
  (1098, .if_icmp .ne 26, 3, 1124, 0, []),
  (1101, .iload 18, 2, 18, 0, []),
  (1103, .ifCond .eq 62, 3, 1165, 0, []),
  (1106, .iload 17, 2, 17, 0, []),
  (1108, .iload 11, 2, 11, 0, []),
  (1110, .if_icmp .ne 14, 3, 1124, 0, []),
  (1113, .aload_n 1, 1, 1, 0, []),
  (1114, .iload 5, 2, 5, 0, []),
  (1116, .iconst 3, 1, 0, 0, [(3, 0)]),
  (1117, .invokevirtual 51, 3, 425, 3, [(0, 11)]),
  (1120, .iconst (-1), 1, 0, 0, [(-1, 0)]),
  (1121, .if_icmp .eq 44, 3, 1165, 0, []),
  (1124, .iconst 0, 1, 0, 0, [(0, 0)]),
  (1125, .ireturn, 1, 0, 0, []),
  (1126, .aload_n 1, 1, 1, 0, []),
  (1127, .invokevirtual 159, 3, 96, 1, [(0, 11)]),
  (1130, .istore 17, 2, 17, 0, []),
  (1132, .iload 17, 2, 17, 0, []),
  (1134, .iload 14, 2, 14, 0, []),
  (1136, .if_icmp .ne 27, 3, 1163, 0, []),
  (1139, .aload_n 1, 1, 1, 0, [])]
def gw_cl14 : List (Nat × ga_E) := [(1140, .bipush 8, 2, 0, 0, [(8, 0)]),
  (1142, .invokevirtual 81, 3, 424, 2, [(0, 11)]),
  (1145, .ifCond .ne 18, 3, 1163, 0, []),
  (1148, .aload_n 1, 1, 1, 0, []),
  (1149, .bipush 9, 2, 0, 0, [(9, 0)]),
  (1151, .invokevirtual 81, 3, 424, 2, [(0, 11)]),
  (1154, .aload_n 1, 1, 1, 0, []),
  (1155, .bipush 7, 2, 0, 0, [(7, 0)]),
  (1157, .invokevirtual 81, 3, 424, 2, [(0, 11)]),
  (1160, .if_icmp .eq 5, 3, 1165, 0, []),
  (1163, .iconst 0, 1, 0, 0, [(0, 0)]),
  (1164, .ireturn, 1, 0, 0, []),
  (1165, .iload 18, 2, 18, 0, []),
  (1167, .ifCond .eq 12, 3, 1179, 0, []),
  (1170, .bipush 10, 2, 0, 0, [(10, 0)]),
  (1172, .iload_n 2, 1, 2, 0, []),
  (1173, .iconst 1, 1, 0, 0, [(1, 0)]),
  (1174, .iadd, 1, 0, 0, []),
  (1175, .invokestatic 162, 3, 11, 2, []),
  (1178, .istore_n 2, 1, 2, 0, []),
  (1179, .aload_n 1, 1, 1, 0, []),
  (1180, .invokevirtual 167, 3, 111, 1, [(0, 11)]),
  (1183, .iload_n 2, 1, 2, 0, []),
  (1184, .if_icmp .ne 10, 3, 1194, 0, []),
  (1187, .aload_n 1, 1, 1, 0, []),
  (1188, .invokestatic 170, 3, 459, 1, []),
  (1191, .ifCond .ne 5, 3, 1196, 0, []),
  (1194, .iconst 0, 1, 0, 0, [(0, 0)]),
  (1195, .ireturn, 1, 0, 0, []),
  (1196, .iload 18, 2, 18, 0, []),
  (1198, .ifCond .eq 94, 3, 1292, 0, []),
  (1201, .iload 4, 2, 4, 0, []),
  (1203, .bipush 29, 2, 0, 0, [(29, 0)]),
  (1205, .iushr, 1, 0, 0, []),
  (1206, .iconst 3, 1, 0, 0, [(3, 0)]),
  (1207, .iand, 1, 0, 0, []),
  (1208, .iconst 1, 1, 0, 0, [(1, 0)]),
  (1209, .if_icmp .ne 83, 3, 1292, 0, []),
  (1212, .iinc 2 (-1), 3, 2, 0, [(-1, 0)]),
  (1215, .aload_n 1, 1, 1, 0, [])]
def gw_cl15 : List (Nat × ga_E) := [(1216, .invokevirtual 174, 3, 437, 1, [(0, 11)]),
  (1219, .iload_n 2, 1, 2, 0, []),
  (1220, .if_icmp .ne 70, 3, 1290, 0, []),
  (1223, .aload_n 1, 1, 1, 0, []),
  (1224, .bipush 7, 2, 0, 0, [(7, 0)]),
  (1226, .invokevirtual 81, 3, 424, 2, [(0, 11)]),
  (1229, .iload 12, 2, 12, 0, []),
  (1231, .if_icmp .ne 59, 3, 1290, 0, []),
  (1234, .aload_n 1, 1, 1, 0, []),
  (1235, .bipush 8, 2, 0, 0, [(8, 0)]),
  (1237, .invokevirtual 81, 3, 424, 2, [(0, 11)]),
  (1240, .iload 13, 2, 13, 0, []),
  (1242, .if_icmp .ne 48, 3, 1290, 0, []),
  (1245, .aload_n 1, 1, 1, 0, []),
  (1246, .bipush 9, 2, 0, 0, [(9, 0)]),
  (1248, .invokevirtual 81, 3, 424, 2, [(0, 11)]),
  (1251, .iload 14, 2, 14, 0, []),
  (1253, .if_icmp .ne 37, 3, 1290, 0, []),
  (1256, .aload_n 1, 1, 1, 0, []),
  (1257, .iload 5, 2, 5, 0, []),
  (1259, .iconst 0, 1, 0, 0, [(0, 0)]),
  (1260, .invokevirtual 51, 3, 425, 3, [(0, 11)]),
  (1263, .iload 10, 2, 10, 0, []),
  (1265, .if_icmp .ne 25, 3, 1290, 0, []),
  (1268, .aload_n 1, 1, 1, 0, []),
  (1269, .iload 5, 2, 5, 0, []),
  (1271, .iconst 3, 1, 0, 0, [(3, 0)]),
  (1272, .invokevirtual 51, 3, 425, 3, [(0, 11)]),
  (1275, .iload 11, 2, 11, 0, []),
  (1277, .if_icmp .ne 13, 3, 1290, 0, []),
  (1280, .aload_n 1, 1, 1, 0, []),
  (1281, .iconst 0, 1, 0, 0, [(0, 0)]),
  (1282, .invokevirtual 121, 3, 436, 2, [(0, 11)]),
  (1285, .iload 15, 2, 15, 0, []),
  (1287, .if_icmp .eq 5, 3, 1292, 0, []),
  (1290, .iconst 0, 1, 0, 0, [(0, 0)]),
  (1291, .ireturn, 1, 0, 0, []),
  (1292, .iinc 3 1, 3, 3, 0, [(1, 0)]),
  (1295, .goto (-1189), 3, 106, 0, []),
  (1298, .iconst 1, 1, 0, 0, [(1, 0)])]
def gw_cl16 : List (Nat × ga_E) := [(1299, .ireturn, 1, 0, 0, [])]
def gw_code : Nat → Option ga_E := fun pc => bif Nat.blt pc 662 then (bif Nat.blt pc 348 then (bif Nat.blt pc 141 then (bif Nat.blt pc 74 then (ga_lk gw_cl0 pc) else (ga_lk gw_cl1 pc)) else (bif Nat.blt pc 206 then (ga_lk gw_cl2 pc) else (ga_lk gw_cl3 pc))) else (bif Nat.blt pc 503 then (bif Nat.blt pc 424 then (ga_lk gw_cl4 pc) else (ga_lk gw_cl5 pc)) else (bif Nat.blt pc 587 then (ga_lk gw_cl6 pc) else (ga_lk gw_cl7 pc)))) else (bif Nat.blt pc 978 then (bif Nat.blt pc 818 then (bif Nat.blt pc 745 then (ga_lk gw_cl8 pc) else (ga_lk gw_cl9 pc)) else (bif Nat.blt pc 897 then (ga_lk gw_cl10 pc) else (ga_lk gw_cl11 pc))) else (bif Nat.blt pc 1140 then (bif Nat.blt pc 1061 then (ga_lk gw_cl12 pc) else (ga_lk gw_cl13 pc)) else (bif Nat.blt pc 1216 then (ga_lk gw_cl14 pc) else (bif Nat.blt pc 1299 then (ga_lk gw_cl15 pc) else (ga_lk gw_cl16 pc)))))
def gw_chs : Nat → List (Nat × ga_E) := fun i => match i with
  | 0 => gw_cl0
  | 1 => gw_cl1
  | 2 => gw_cl2
  | 3 => gw_cl3
  | 4 => gw_cl4
  | 5 => gw_cl5
  | 6 => gw_cl6
  | 7 => gw_cl7
  | 8 => gw_cl8
  | 9 => gw_cl9
  | 10 => gw_cl10
  | 11 => gw_cl11
  | 12 => gw_cl12
  | 13 => gw_cl13
  | 14 => gw_cl14
  | 15 => gw_cl15
  | 16 => gw_cl16
  | _ => []
theorem gc_bif3 {α : Type} {b : Bool} {x y : Option α} {o : α} (h : (bif b then x else y) = some o) : x = some o ∨ y = some o := by
  cases b with
  | true => exact Or.inl h
  | false => exact Or.inr h
theorem gw_code_mem {pc : Nat} {r : ga_E} (h : gw_code pc = some r) : ∃ i, ga_lk (gw_chs i) pc = some r := by
  have h9 : ∀ (i : Nat) (l : List (Nat × ga_E)), ga_lk (gw_chs i) pc = some r → ∃ i, ga_lk (gw_chs i) pc = some r := fun i _ h => ⟨i, h⟩
  unfold gw_code at h
  rcases gc_bif3 h with h1 | h1
  · skip
    rcases gc_bif3 h1 with h2 | h2
    · skip
      rcases gc_bif3 h2 with h3 | h3
      · skip
        rcases gc_bif3 h3 with h4 | h4
        · skip
          exact h9 0 [] h4
        · skip
          exact h9 1 [] h4
      · skip
        rcases gc_bif3 h3 with h4 | h4
        · skip
          exact h9 2 [] h4
        · skip
          exact h9 3 [] h4
    · skip
      rcases gc_bif3 h2 with h3 | h3
      · skip
        rcases gc_bif3 h3 with h4 | h4
        · skip
          exact h9 4 [] h4
        · skip
          exact h9 5 [] h4
      · skip
        rcases gc_bif3 h3 with h4 | h4
        · skip
          exact h9 6 [] h4
        · skip
          exact h9 7 [] h4
  · skip
    rcases gc_bif3 h1 with h2 | h2
    · skip
      rcases gc_bif3 h2 with h3 | h3
      · skip
        rcases gc_bif3 h3 with h4 | h4
        · skip
          exact h9 8 [] h4
        · skip
          exact h9 9 [] h4
      · skip
        rcases gc_bif3 h3 with h4 | h4
        · skip
          exact h9 10 [] h4
        · skip
          exact h9 11 [] h4
    · skip
      rcases gc_bif3 h2 with h3 | h3
      · skip
        rcases gc_bif3 h3 with h4 | h4
        · skip
          exact h9 12 [] h4
        · skip
          exact h9 13 [] h4
      · skip
        rcases gc_bif3 h3 with h4 | h4
        · skip
          exact h9 14 [] h4
        · skip
          rcases gc_bif3 h4 with h5 | h5
          · skip
            exact h9 15 [] h5
          · skip
            exact h9 16 [] h5
end
