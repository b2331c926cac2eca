noncomputable section
def cl_L_holds : List (Nat × ga_E) := [
  (0, .iconst 0, 1, 0, 0, [(0, 0)]),
  (1, .istore_n 1, 1, 1, 0, []),
  (2, .iconst 0, 1, 0, 0, [(0, 0)]),
  (3, .istore_n 2, 1, 2, 0, []),
  (4, .iconst 0, 1, 0, 0, [(0, 0)]),
  (5, .istore_n 3, 1, 3, 0, []),
  (6, .iconst 0, 1, 0, 0, [(0, 0)]),
  (7, .istore 4, 2, 4, 0, []),
  (9, .iconst 0, 1, 0, 0, [(0, 0)]),
  (10, .istore 5, 2, 5, 0, []),
  (12, .iconst 0, 1, 0, 0, [(0, 0)]),
  (13, .istore 6, 2, 6, 0, []),
  (15, .iconst 0, 1, 0, 0, [(0, 0)]),
  (16, .istore 7, 2, 7, 0, []),
  (18, .iload 7, 2, 7, 0, []),
  (20, .bipush 7, 2, 0, 0, [(7, 0)]),
  (22, .if_icmp .ge 309, 3, 331, 0, []),
  (25, .aload_n 0, 1, 0, 0, []),
  (26, .iload 7, 2, 7, 0, []),
  (28, .iconst 0, 1, 0, 0, [(0, 0)]),
  (29, .invokevirtual 51, 3, 425, 3, [(0, 11)]),
  (32, .istore 8, 2, 8, 0, []),
  (34, .aload_n 0, 1, 0, 0, []),
  (35, .iload 7, 2, 7, 0, []),
  (37, .iconst 3, 1, 0, 0, [(3, 0)]),
  (38, .invokevirtual 51, 3, 425, 3, [(0, 11)]),
  (41, .istore 9, 2, 9, 0, []),
  (43, .iload 8, 2, 8, 0, []),
  (45, .iconst 3, 1, 0, 0, [(3, 0)]),
  (46, .idiv, 1, 0, 0, []),
  (47, .istore 10, 2, 10, 0, []),
  (49, .aload_n 0, 1, 0, 0, []),
  (50, .iload 8, 2, 8, 0, []),
  (52, .aload_n 0, 1, 0, 0, []),
  (53, .iload 7, 2, 7, 0, []),
  (55, .iconst 1, 1, 0, 0, [(1, 0)]),
  (56, .invokevirtual 51, 3, 425, 3, [(0, 11)]),
  (59, .invokevirtual 54, 3, 430, 3, [(0, 11)]),
  (62, .iload 7, 2, 7, 0, []),
  (64, .if_icmp .ne 39, 3, 103, 0, []),
  (67, .aload_n 0, 1, 0, 0, []),
  (68, .iload 8, 2, 8, 0, []),
  (70, .aload_n 0, 1, 0, 0, []),
  (71, .iload 7, 2, 7, 0, []),
  (73, .iconst 4, 1, 0, 0, [(4, 0)]),
  (74, .invokevirtual 51, 3, 425, 3, [(0, 11)]),
  (77, .invokevirtual 57, 3, 432, 3, [(0, 11)]),
  (80, .iload 7, 2, 7, 0, []),
  (82, .if_icmp .ne 21, 3, 103, 0, []),
  (85, .iload 9, 2, 9, 0, []),
  (87, .ifCond .lt 18, 3, 105, 0, []),
  (90, .aload_n 0, 1, 0, 0, []),
  (91, .iload 8, 2, 8, 0, []),
  (93, .iload 9, 2, 9, 0, []),
  (95, .invokevirtual 60, 3, 431, 3, [(0, 11)]),
  (98, .iload 7, 2, 7, 0, []),
  (100, .if_icmp .eq 5, 3, 105, 0, []),
  (103, .iconst 0, 1, 0, 0, [(0, 0)]),
  (104, .ireturn, 1, 0, 0, []),
  (105, .aload_n 0, 1, 0, 0, []),
  (106, .aload_n 0, 1, 0, 0, []),
  (107, .iload 7, 2, 7, 0, []),
  (109, .iconst 4, 1, 0, 0, [(4, 0)]),
  (110, .invokevirtual 51, 3, 425, 3, [(0, 11)]),
  (113, .iconst 0, 1, 0, 0, [(0, 0)]),
  (114, .invokevirtual 63, 3, 427, 3, [(0, 11)]),
  (117, .aload_n 0, 1, 0, 0, []),
  (118, .aload_n 0, 1, 0, 0, []),
  (119, .iload 7, 2, 7, 0, []),
  (121, .iconst 2, 1, 0, 0, [(2, 0)]),
  (122, .invokevirtual 51, 3, 425, 3, [(0, 11)]),
  (125, .iconst 0, 1, 0, 0, [(0, 0)]),
  (126, .invokevirtual 66, 3, 428, 3, [(0, 11)]),
  (129, .if_icmp .ne 24, 3, 153, 0, []),
  (132, .iload 9, 2, 9, 0, []),
  (134, .ifCond .lt 21, 3, 155, 0, []),
  (137, .aload_n 0, 1, 0, 0, []),
  (138, .iload 9, 2, 9, 0, []),
  (140, .iconst 2, 1, 0, 0, [(2, 0)]),
  (141, .invokevirtual 69, 3, 426, 3, [(0, 11)]),
  (144, .iload 10, 2, 10, 0, []),
  (146, .ishr, 1, 0, 0, []),
  (147, .iconst 1, 1, 0, 0, [(1, 0)]),
  (148, .iand, 1, 0, 0, []),
  (149, .iconst 1, 1, 0, 0, [(1, 0)]),
  (150, .if_icmp .ne 5, 3, 155, 0, []),
  (153, .iconst 0, 1, 0, 0, [(0, 0)]),
  (154, .ireturn, 1, 0, 0, []),
  (155, .iload 9, 2, 9, 0, []),
  (157, .ifCond .lt 33, 3, 190, 0, []),
  (160, .aload_n 0, 1, 0, 0, []),
  (161, .iload 7, 2, 7, 0, []),
  (163, .iconst 5, 1, 0, 0, [(5, 0)]),
  (164, .invokevirtual 51, 3, 425, 3, [(0, 11)]),
  (167, .ifCond .ne 23, 3, 190, 0, []),
  (170, .aload_n 0, 1, 0, 0, []),
  (171, .iload 9, 2, 9, 0, []),
  (173, .iconst 1, 1, 0, 0, [(1, 0)]),
  (174, .invokevirtual 69, 3, 426, 3, [(0, 11)]),
  (177, .aload_n 0, 1, 0, 0, []),
  (178, .iload 7, 2, 7, 0, []),
  (180, .iconst 2, 1, 0, 0, [(2, 0)]),
  (181, .invokevirtual 51, 3, 425, 3, [(0, 11)]),
  (184, .ishr, 1, 0, 0, []),
  (185, .iconst 1, 1, 0, 0, [(1, 0)]),
  (186, .iand, 1, 0, 0, []),
  (187, .ifCond .eq 19, 3, 206, 0, []),
  (190, .iload 9, 2, 9, 0, []),
  (192, .ifCond .ge 16, 3, 208, 0, []),
  (195, .aload_n 0, 1, 0, 0, []),
  (196, .iload 7, 2, 7, 0, []),
  (198, .iconst 5, 1, 0, 0, [(5, 0)]),
  (199, .invokevirtual 51, 3, 425, 3, [(0, 11)]),
  (202, .iconst 1, 1, 0, 0, [(1, 0)]),
  (203, .if_icmp .ne 5, 3, 208, 0, []),
  (206, .iconst 0, 1, 0, 0, [(0, 0)]),
  (207, .ireturn, 1, 0, 0, []),
  (208, .iload 9, 2, 9, 0, []),
  (210, .ifCond .ge 6, 3, 216, 0, []),
  (213, .iinc 4 1, 3, 4, 0, [(1, 0)]),
  (216, .iload 5, 2, 5, 0, []),
  (218, .aload_n 0, 1, 0, 0, []),
  (219, .iload 7, 2, 7, 0, []),
  (221, .iconst 5, 1, 0, 0, [(5, 0)]),
  (222, .invokevirtual 51, 3, 425, 3, [(0, 11)]),
  (225, .iadd, 1, 0, 0, []),
  (226, .istore 5, 2, 5, 0, []),
  (228, .iload 6, 2, 6, 0, []),
  (230, .aload_n 0, 1, 0, 0, []),
  (231, .iload 7, 2, 7, 0, []),
  (233, .bipush 9, 2, 0, 0, [(9, 0)]),
  (235, .invokevirtual 51, 3, 425, 3, [(0, 11)]),
  (238, .iadd, 1, 0, 0, []),
  (239, .istore 6, 2, 6, 0, []),
  (241, .aload_n 0, 1, 0, 0, []),
  (242, .iload 7, 2, 7, 0, []),
  (244, .invokevirtual 72, 3, 421, 2, [(0, 11)]),
  (247, .istore 11, 2, 11, 0, []),
  (249, .iload 9, 2, 9, 0, []),
  (251, .ifCond .lt 27, 3, 278, 0, []),
  (254, .iload 11, 2, 11, 0, []),
  (256, .ifCond .ne 67, 3, 323, 0, []),
  (259, .aload_n 0, 1, 0, 0, []),
  (260, .iload 7, 2, 7, 0, []),
  (262, .invokevirtual 75, 3, 420, 2, [(0, 11)]),
  (265, .ifCond .eq 13, 3, 278, 0, []),
  (268, .aload_n 0, 1, 0, 0, []),
  (269, .iload 7, 2, 7, 0, []),
  (271, .iconst 5, 1, 0, 0, [(5, 0)]),
  (272, .invokevirtual 51, 3, 425, 3, [(0, 11)]),
  (275, .ifCond .eq 48, 3, 323, 0, []),
  (278, .iload 11, 2, 11, 0, []),
  (280, .iconst 1, 1, 0, 0, [(1, 0)]),
  (281, .if_icmp .ne 22, 3, 303, 0, []),
  (284, .aload_n 0, 1, 0, 0, []),
  (285, .iload 7, 2, 7, 0, []),
  (287, .invokevirtual 75, 3, 420, 2, [(0, 11)]),
  (290, .aload_n 0, 1, 0, 0, []),
  (291, .iload 7, 2, 7, 0, []),
  (293, .iconst 0, 1, 0, 0, [(0, 0)]),
  (294, .invokevirtual 78, 3, 422, 3, [(0, 11)]),
  (297, .ishr, 1, 0, 0, []),
  (298, .iconst 1, 1, 0, 0, [(1, 0)]),
  (299, .iand, 1, 0, 0, []),
  (300, .ifCond .eq 23, 3, 323, 0, []),
  (303, .iload 9, 2, 9, 0, []),
  (305, .ifCond .ge 20, 3, 325, 0, []),
  (308, .iload 11, 2, 11, 0, []),
  (310, .iconst 1, 1, 0, 0, [(1, 0)]),
  (311, .if_icmp .eq 14, 3, 325, 0, []),
  (314, .aload_n 0, 1, 0, 0, []),
  (315, .iload 7, 2, 7, 0, []),
  (317, .invokevirtual 75, 3, 420, 2, [(0, 11)]),
  (320, .ifCond .eq 5, 3, 325, 0, []),
  (323, .iconst 0, 1, 0, 0, [(0, 0)]),
  (324, .ireturn, 1, 0, 0, []),
  (325, .iinc 7 1, 3, 7, 0, [(1, 0)]),
  (328, .goto (-310), 3, 18, 0, []),
  (331, .iconst 0, 1, 0, 0, [(0, 0)]),
  (332, .istore 7, 2, 7, 0, []),
  (334, .iload 7, 2, 7, 0, []),
  (336, .iconst 4, 1, 0, 0, [(4, 0)]),
  (337, .if_icmp .ge 67, 3, 404, 0, []),
  (340, .iload_n 1, 1, 1, 0, []),
  (341, .aload_n 0, 1, 0, 0, []),
  (342, .iload 7, 2, 7, 0, []),
  (344, .iconst 3, 1, 0, 0, [(3, 0)]),
  (345, .invokevirtual 69, 3, 426, 3, [(0, 11)]),
  (348, .iadd, 1, 0, 0, []),
  (349, .istore_n 1, 1, 1, 0, []),
  (350, .iload_n 2, 1, 2, 0, []),
  (351, .aload_n 0, 1, 0, 0, []),
  (352, .iload 7, 2, 7, 0, []),
  (354, .iconst 5, 1, 0, 0, [(5, 0)]),
  (355, .invokevirtual 69, 3, 426, 3, [(0, 11)]),
  (358, .iadd, 1, 0, 0, []),
  (359, .istore_n 2, 1, 2, 0, []),
  (360, .iload_n 3, 1, 3, 0, []),
  (361, .aload_n 0, 1, 0, 0, []),
  (362, .iload 7, 2, 7, 0, []),
  (364, .iconst 4, 1, 0, 0, [(4, 0)]),
  (365, .invokevirtual 69, 3, 426, 3, [(0, 11)]),
  (368, .iadd, 1, 0, 0, []),
  (369, .istore_n 3, 1, 3, 0, []),
  (370, .aload_n 0, 1, 0, 0, []),
  (371, .iload 7, 2, 7, 0, []),
  (373, .iconst 4, 1, 0, 0, [(4, 0)]),
  (374, .invokevirtual 69, 3, 426, 3, [(0, 11)]),
  (377, .aload_n 0, 1, 0, 0, []),
  (378, .iload 7, 2, 7, 0, []),
  (380, .iconst 3, 1, 0, 0, [(3, 0)]),
  (381, .invokevirtual 69, 3, 426, 3, [(0, 11)]),
  (384, .aload_n 0, 1, 0, 0, []),
  (385, .iload 7, 2, 7, 0, []),
  (387, .bipush 6, 2, 0, 0, [(6, 0)]),
  (389, .invokevirtual 69, 3, 426, 3, [(0, 11)]),
  (392, .isub, 1, 0, 0, []),
  (393, .if_icmp .eq 5, 3, 398, 0, []),
  (396, .iconst 0, 1, 0, 0, [(0, 0)]),
  (397, .ireturn, 1, 0, 0, []),
  (398, .iinc 7 1, 3, 7, 0, [(1, 0)]),
  (401, .goto (-67), 3, 334, 0, []),
  (404, .aload_n 0, 1, 0, 0, []),
  (405, .bipush 7, 2, 0, 0, [(7, 0)]),
  (407, .invokevirtual 81, 3, 424, 2, [(0, 11)]),
  (410, .iload 4, 2, 4, 0, []),
  (412, .if_icmp .ne 76, 3, 488, 0, []),
  (415, .aload_n 0, 1, 0, 0, []),
  (416, .bipush 8, 2, 0, 0, [(8, 0)]),
  (418, .invokevirtual 81, 3, 424, 2, [(0, 11)]),
  (421, .iload 5, 2, 5, 0, []),
  (423, .if_icmp .ne 65, 3, 488, 0, []),
  (426, .aload_n 0, 1, 0, 0, []),
  (427, .bipush 9, 2, 0, 0, [(9, 0)]),
  (429, .invokevirtual 81, 3, 424, 2, [(0, 11)]),
  (432, .iload 6, 2, 6, 0, []),
  (434, .if_icmp .ne 54, 3, 488, 0, []),
  (437, .iload_n 1, 1, 1, 0, []),
  (438, .iload 5, 2, 5, 0, []),
  (440, .iadd, 1, 0, 0, []),
  (441, .iload 4, 2, 4, 0, []),
  (443, .iadd, 1, 0, 0, []),
  (444, .bipush 7, 2, 0, 0, [(7, 0)]),
  (446, .if_icmp .ne 42, 3, 488, 0, []),
  (449, .iload_n 2, 1, 2, 0, []),
  (450, .iload 5, 2, 5, 0, []),
  (452, .if_icmp .ne 36, 3, 488, 0, []),
  (455, .iload_n 3, 1, 3, 0, []),
  (456, .iload_n 1, 1, 1, 0, []),
  (457, .bipush 7, 2, 0, 0, [(7, 0)]),
  (459, .isub, 1, 0, 0, []),
  (460, .if_icmp .ne 28, 3, 488, 0, []),
  (463, .aload_n 0, 1, 0, 0, []),
  (464, .invokevirtual 84, 3, 105, 1, [(0, 11)]),
  (467, .iload_n 1, 1, 1, 0, []),
  (468, .i2d, 1, 0, 0, []),
  (469, .ldc2_w 88, 3, 0, 0, [(7, 0)]),
  (472, .ddiv, 1, 0, 0, []),
  (473, .dcmp .l, 1, 0, 0, []),
  (474, .ifCond .ne 14, 3, 488, 0, []),
  (477, .aload_n 0, 1, 0, 0, []),
  (478, .invokevirtual 90, 3, 103, 1, [(0, 11)]),
  (481, .ifCond .lt 7, 3, 488, 0, []),
  (484, .iconst 1, 1, 0, 0, [(1, 0)]),
  (485, .goto 4, 3, 489, 0, []),
  (488, .iconst 0, 1, 0, 0, [(0, 0)]),
  (489, .ireturn, 1, 0, 0, [])]
abbrev TV_holds (B C : Nat) (cfg : ga_C) (r : Int32 × ga_M) : Prop := gv_T RL cL_holds (ga_lk cl_L_holds) gaG gaCost (fun _ => []) gaCls 84 false true true none (fun S _ => S = gaSH) ga_kI B C cfg r
set_option maxHeartbeats 4000000 in
set_option maxRecDepth 100000 in
theorem tv_L_holds_h334 : ∀ (n : Nat) (l1 : Int32) (l2 : Int32) (l3 : Int32) (l4 : Int32) (l5 : Int32) (l6 : Int32) (l7 : Int32) (w0 : Option Value) (w1 : Option Value) (w2 : Option Value) (w3 : Option Value) (S : ga_S) (s : ga_M) (r : Int32 × ga_M), f_L_holds_h334 n l1 l2 l3 l4 l5 l6 l7 s = some r → TV_holds (n * 12 + 0) (n * 72 + 0) (334, [some (.ref 0), some (.int l1), some (.int l2), some (.int l3), some (.int l4), some (.int l5), some (.int l6), some (.int l7), w0, w1, w2, w3], [], S, s, 0, 0) r := by
  intro n
  induction n with
  | zero => intro l1 l2 l3 l4 l5 l6 l7 w0 w1 w2 w3 S s r h; cases h
  | succ n ih => intro l1 l2 l3 l4 l5 l6 l7 w0 w1 w2 w3 S s r h; exact gv_T_S fun hS => (by
    cases hS
    exact gv_T_go (B1 := 12) (C1 := 72) (sp := [(334, fun L _ s => match L with
      | [some (.ref 0), some (.int l1), some (.int l2), some (.int l3), some (.int l4), some (.int l5), some (.int l6), some (.int l7), _, _, _, _] => f_L_holds_h334 n l1 l2 l3 l4 l5 l6 l7 s
      | _ => none)]) (by have := gv_f5_eq; have := gv_f8_eq; have := gv_f15_eq; omega) (by have := gv_f5_eq; have := gv_f8_eq; have := gv_f15_eq; omega) (List.forall_mem_cons.mpr ⟨fun L S s1 h => (by
      dsimp only at h
      split at h
      · exact gv_T_mono (by have := gv_f5_eq; have := gv_f8_eq; have := gv_f15_eq; omega) (by have := gv_f5_eq; have := gv_f8_eq; have := gv_f15_eq; omega) (ih _ _ _ _ _ _ _ _ _ _ _ S s1 _ h)
      · cases h), fun _ h => nomatch h⟩) (n := 900) h)
set_option maxHeartbeats 4000000 in
set_option maxRecDepth 100000 in
theorem tv_L_holds_j325 {Bg18 Cg18 : Nat} {go18 : Int32 → Int32 → Int32 → Int32 → Int32 → Int32 → Int32 → ga_M → Option (Int32 × ga_M)} (hgo18 : ∀ (l1 : Int32) (l2 : Int32) (l3 : Int32) (l4 : Int32) (l5 : Int32) (l6 : Int32) (l7 : Int32) (w0 : Option Value) (w1 : Option Value) (w2 : Option Value) (w3 : Option Value) (S : ga_S) (s : ga_M) (r : Int32 × ga_M), go18 l1 l2 l3 l4 l5 l6 l7 s = some r → TV_holds Bg18 Cg18 (18, [some (.ref 0), some (.int l1), some (.int l2), some (.int l3), some (.int l4), some (.int l5), some (.int l6), some (.int l7), w0, w1, w2, w3], [], S, s, 0, 0) r) (l1 : Int32) (l2 : Int32) (l3 : Int32) (l4 : Int32) (l5 : Int32) (l6 : Int32) (l7 : Int32) (w0 : Option Value) (w1 : Option Value) (w2 : Option Value) (w3 : Option Value) (S : ga_S) (s : ga_M) (r : Int32 × ga_M) (h : f_L_holds_j325 go18 l1 l2 l3 l4 l5 l6 l7 s = some r) : TV_holds (Bg18 + 0) (Cg18 + 0) (325, [some (.ref 0), some (.int l1), some (.int l2), some (.int l3), some (.int l4), some (.int l5), some (.int l6), some (.int l7), w0, w1, w2, w3], [], S, s, 0, 0) r := gv_T_S fun hS => (by
    cases hS
    rw [fe_L_holds_j325] at h
    exact gv_T_go (B1 := 0) (C1 := 0) (sp := [(18, fun L _ s => match L with
      | [some (.ref 0), some (.int l1), some (.int l2), some (.int l3), some (.int l4), some (.int l5), some (.int l6), some (.int l7), _, _, _, _] => go18 l1 l2 l3 l4 l5 l6 l7 s
      | _ => none)]) (by have := gv_f5_eq; have := gv_f8_eq; have := gv_f15_eq; omega) (by have := gv_f5_eq; have := gv_f8_eq; have := gv_f15_eq; omega) (List.forall_mem_cons.mpr ⟨fun L S s1 h => (by
      dsimp only at h
      split at h
      · exact gv_T_mono (by have := gv_f5_eq; have := gv_f8_eq; have := gv_f15_eq; omega) (by have := gv_f5_eq; have := gv_f8_eq; have := gv_f15_eq; omega) (hgo18 _ _ _ _ _ _ _ _ _ _ _ S s1 _ h)
      · cases h), fun _ h => nomatch h⟩) (n := 900) h)
set_option maxHeartbeats 4000000 in
set_option maxRecDepth 100000 in
theorem tv_L_holds_j303 {Bg18 Cg18 : Nat} {go18 : Int32 → Int32 → Int32 → Int32 → Int32 → Int32 → Int32 → ga_M → Option (Int32 × ga_M)} (hgo18 : ∀ (l1 : Int32) (l2 : Int32) (l3 : Int32) (l4 : Int32) (l5 : Int32) (l6 : Int32) (l7 : Int32) (w0 : Option Value) (w1 : Option Value) (w2 : Option Value) (w3 : Option Value) (S : ga_S) (s : ga_M) (r : Int32 × ga_M), go18 l1 l2 l3 l4 l5 l6 l7 s = some r → TV_holds Bg18 Cg18 (18, [some (.ref 0), some (.int l1), some (.int l2), some (.int l3), some (.int l4), some (.int l5), some (.int l6), some (.int l7), w0, w1, w2, w3], [], S, s, 0, 0) r) (l1 : Int32) (l2 : Int32) (l3 : Int32) (l4 : Int32) (l5 : Int32) (l6 : Int32) (l7 : Int32) (l9 : Int32) (l11 : Int32) (w0 : Option Value) (w1 : Option Value) (S : ga_S) (s : ga_M) (r : Int32 × ga_M) (h : f_L_holds_j303 go18 l1 l2 l3 l4 l5 l6 l7 l9 l11 s = some r) : TV_holds (Bg18 + 1) (Cg18 + 6) (303, [some (.ref 0), some (.int l1), some (.int l2), some (.int l3), some (.int l4), some (.int l5), some (.int l6), some (.int l7), w0, some (.int l9), w1, some (.int l11)], [], S, s, 0, 0) r := gv_T_S fun hS => (by
    cases hS
    rw [fe_L_holds_j303] at h
    exact gv_T_go (B1 := 1) (C1 := 6) (sp := [(325, fun L _ s => match L with
      | [some (.ref 0), some (.int l1), some (.int l2), some (.int l3), some (.int l4), some (.int l5), some (.int l6), some (.int l7), _, _, _, _] => f_L_holds_j325 go18 l1 l2 l3 l4 l5 l6 l7 s
      | _ => none)]) (by have := gv_f5_eq; have := gv_f8_eq; have := gv_f15_eq; omega) (by have := gv_f5_eq; have := gv_f8_eq; have := gv_f15_eq; omega) (List.forall_mem_cons.mpr ⟨fun L S s1 h => (by
      dsimp only at h
      split at h
      · exact gv_T_mono (by have := gv_f5_eq; have := gv_f8_eq; have := gv_f15_eq; omega) (by have := gv_f5_eq; have := gv_f8_eq; have := gv_f15_eq; omega) (tv_L_holds_j325 hgo18 _ _ _ _ _ _ _ _ _ _ _ S s1 _ h)
      · cases h), fun _ h => nomatch h⟩) (n := 900) h)
set_option maxHeartbeats 4000000 in
set_option maxRecDepth 100000 in
theorem tv_L_holds_j278 {Bg18 Cg18 : Nat} {go18 : Int32 → Int32 → Int32 → Int32 → Int32 → Int32 → Int32 → ga_M → Option (Int32 × ga_M)} (hgo18 : ∀ (l1 : Int32) (l2 : Int32) (l3 : Int32) (l4 : Int32) (l5 : Int32) (l6 : Int32) (l7 : Int32) (w0 : Option Value) (w1 : Option Value) (w2 : Option Value) (w3 : Option Value) (S : ga_S) (s : ga_M) (r : Int32 × ga_M), go18 l1 l2 l3 l4 l5 l6 l7 s = some r → TV_holds Bg18 Cg18 (18, [some (.ref 0), some (.int l1), some (.int l2), some (.int l3), some (.int l4), some (.int l5), some (.int l6), some (.int l7), w0, w1, w2, w3], [], S, s, 0, 0) r) (l1 : Int32) (l2 : Int32) (l3 : Int32) (l4 : Int32) (l5 : Int32) (l6 : Int32) (l7 : Int32) (l9 : Int32) (l11 : Int32) (w0 : Option Value) (w1 : Option Value) (S : ga_S) (s : ga_M) (r : Int32 × ga_M) (h : f_L_holds_j278 go18 l1 l2 l3 l4 l5 l6 l7 l9 l11 s = some r) : TV_holds (Bg18 + 4) (Cg18 + 24) (278, [some (.ref 0), some (.int l1), some (.int l2), some (.int l3), some (.int l4), some (.int l5), some (.int l6), some (.int l7), w0, some (.int l9), w1, some (.int l11)], [], S, s, 0, 0) r := gv_T_S fun hS => (by
    cases hS
    rw [fe_L_holds_j278] at h
    exact gv_T_go (B1 := 3) (C1 := 18) (sp := [(303, fun L _ s => match L with
      | [some (.ref 0), some (.int l1), some (.int l2), some (.int l3), some (.int l4), some (.int l5), some (.int l6), some (.int l7), _, some (.int l9), _, some (.int l11)] => f_L_holds_j303 go18 l1 l2 l3 l4 l5 l6 l7 l9 l11 s
      | _ => none)]) (by have := gv_f5_eq; have := gv_f8_eq; have := gv_f15_eq; omega) (by have := gv_f5_eq; have := gv_f8_eq; have := gv_f15_eq; omega) (List.forall_mem_cons.mpr ⟨fun L S s1 h => (by
      dsimp only at h
      split at h
      · exact gv_T_mono (by have := gv_f5_eq; have := gv_f8_eq; have := gv_f15_eq; omega) (by have := gv_f5_eq; have := gv_f8_eq; have := gv_f15_eq; omega) (tv_L_holds_j303 hgo18 _ _ _ _ _ _ _ _ _ _ _ S s1 _ h)
      · cases h), fun _ h => nomatch h⟩) (n := 900) h)
set_option maxHeartbeats 4000000 in
set_option maxRecDepth 100000 in
theorem tv_L_holds_j216 {Bg18 Cg18 : Nat} {go18 : Int32 → Int32 → Int32 → Int32 → Int32 → Int32 → Int32 → ga_M → Option (Int32 × ga_M)} (hgo18 : ∀ (l1 : Int32) (l2 : Int32) (l3 : Int32) (l4 : Int32) (l5 : Int32) (l6 : Int32) (l7 : Int32) (w0 : Option Value) (w1 : Option Value) (w2 : Option Value) (w3 : Option Value) (S : ga_S) (s : ga_M) (r : Int32 × ga_M), go18 l1 l2 l3 l4 l5 l6 l7 s = some r → TV_holds Bg18 Cg18 (18, [some (.ref 0), some (.int l1), some (.int l2), some (.int l3), some (.int l4), some (.int l5), some (.int l6), some (.int l7), w0, w1, w2, w3], [], S, s, 0, 0) r) (l1 : Int32) (l2 : Int32) (l3 : Int32) (l4 : Int32) (l5 : Int32) (l6 : Int32) (l7 : Int32) (l9 : Int32) (w0 : Option Value) (w1 : Option Value) (w2 : Option Value) (S : ga_S) (s : ga_M) (r : Int32 × ga_M) (h : f_L_holds_j216 go18 l1 l2 l3 l4 l5 l6 l7 l9 s = some r) : TV_holds (Bg18 + 12) (Cg18 + 72) (216, [some (.ref 0), some (.int l1), some (.int l2), some (.int l3), some (.int l4), some (.int l5), some (.int l6), some (.int l7), w0, some (.int l9), w1, w2], [], S, s, 0, 0) r := gv_T_S fun hS => (by
    cases hS
    rw [fe_L_holds_j216] at h
    exact gv_T_go (B1 := 8) (C1 := 48) (sp := [(278, fun L _ s => match L with
      | [some (.ref 0), some (.int l1), some (.int l2), some (.int l3), some (.int l4), some (.int l5), some (.int l6), some (.int l7), _, some (.int l9), _, some (.int l11)] => f_L_holds_j278 go18 l1 l2 l3 l4 l5 l6 l7 l9 l11 s
      | _ => none)]) (by have := gv_f5_eq; have := gv_f8_eq; have := gv_f15_eq; omega) (by have := gv_f5_eq; have := gv_f8_eq; have := gv_f15_eq; omega) (List.forall_mem_cons.mpr ⟨fun L S s1 h => (by
      dsimp only at h
      split at h
      · exact gv_T_mono (by have := gv_f5_eq; have := gv_f8_eq; have := gv_f15_eq; omega) (by have := gv_f5_eq; have := gv_f8_eq; have := gv_f15_eq; omega) (tv_L_holds_j278 hgo18 _ _ _ _ _ _ _ _ _ _ _ S s1 _ h)
      · cases h), fun _ h => nomatch h⟩) (n := 900) h)
set_option maxHeartbeats 4000000 in
set_option maxRecDepth 100000 in
theorem tv_L_holds_j208 {Bg18 Cg18 : Nat} {go18 : Int32 → Int32 → Int32 → Int32 → Int32 → Int32 → Int32 → ga_M → Option (Int32 × ga_M)} (hgo18 : ∀ (l1 : Int32) (l2 : Int32) (l3 : Int32) (l4 : Int32) (l5 : Int32) (l6 : Int32) (l7 : Int32) (w0 : Option Value) (w1 : Option Value) (w2 : Option Value) (w3 : Option Value) (S : ga_S) (s : ga_M) (r : Int32 × ga_M), go18 l1 l2 l3 l4 l5 l6 l7 s = some r → TV_holds Bg18 Cg18 (18, [some (.ref 0), some (.int l1), some (.int l2), some (.int l3), some (.int l4), some (.int l5), some (.int l6), some (.int l7), w0, w1, w2, w3], [], S, s, 0, 0) r) (l1 : Int32) (l2 : Int32) (l3 : Int32) (l4 : Int32) (l5 : Int32) (l6 : Int32) (l7 : Int32) (l9 : Int32) (w0 : Option Value) (w1 : Option Value) (w2 : Option Value) (S : ga_S) (s : ga_M) (r : Int32 × ga_M) (h : f_L_holds_j208 go18 l1 l2 l3 l4 l5 l6 l7 l9 s = some r) : TV_holds (Bg18 + 12) (Cg18 + 72) (208, [some (.ref 0), some (.int l1), some (.int l2), some (.int l3), some (.int l4), some (.int l5), some (.int l6), some (.int l7), w0, some (.int l9), w1, w2], [], S, s, 0, 0) r := gv_T_S fun hS => (by
    cases hS
    rw [fe_L_holds_j208] at h
    exact gv_T_go (B1 := 0) (C1 := 0) (sp := [(216, fun L _ s => match L with
      | [some (.ref 0), some (.int l1), some (.int l2), some (.int l3), some (.int l4), some (.int l5), some (.int l6), some (.int l7), _, some (.int l9), _, _] => f_L_holds_j216 go18 l1 l2 l3 l4 l5 l6 l7 l9 s
      | _ => none)]) (by have := gv_f5_eq; have := gv_f8_eq; have := gv_f15_eq; omega) (by have := gv_f5_eq; have := gv_f8_eq; have := gv_f15_eq; omega) (List.forall_mem_cons.mpr ⟨fun L S s1 h => (by
      dsimp only at h
      split at h
      · exact gv_T_mono (by have := gv_f5_eq; have := gv_f8_eq; have := gv_f15_eq; omega) (by have := gv_f5_eq; have := gv_f8_eq; have := gv_f15_eq; omega) (tv_L_holds_j216 hgo18 _ _ _ _ _ _ _ _ _ _ _ S s1 _ h)
      · cases h), fun _ h => nomatch h⟩) (n := 900) h)
set_option maxHeartbeats 4000000 in
set_option maxRecDepth 100000 in
theorem tv_L_holds_j190 {Bg18 Cg18 : Nat} {go18 : Int32 → Int32 → Int32 → Int32 → Int32 → Int32 → Int32 → ga_M → Option (Int32 × ga_M)} (hgo18 : ∀ (l1 : Int32) (l2 : Int32) (l3 : Int32) (l4 : Int32) (l5 : Int32) (l6 : Int32) (l7 : Int32) (w0 : Option Value) (w1 : Option Value) (w2 : Option Value) (w3 : Option Value) (S : ga_S) (s : ga_M) (r : Int32 × ga_M), go18 l1 l2 l3 l4 l5 l6 l7 s = some r → TV_holds Bg18 Cg18 (18, [some (.ref 0), some (.int l1), some (.int l2), some (.int l3), some (.int l4), some (.int l5), some (.int l6), some (.int l7), w0, w1, w2, w3], [], S, s, 0, 0) r) (l1 : Int32) (l2 : Int32) (l3 : Int32) (l4 : Int32) (l5 : Int32) (l6 : Int32) (l7 : Int32) (l9 : Int32) (w0 : Option Value) (w1 : Option Value) (w2 : Option Value) (S : ga_S) (s : ga_M) (r : Int32 × ga_M) (h : f_L_holds_j190 go18 l1 l2 l3 l4 l5 l6 l7 l9 s = some r) : TV_holds (Bg18 + 14) (Cg18 + 84) (190, [some (.ref 0), some (.int l1), some (.int l2), some (.int l3), some (.int l4), some (.int l5), some (.int l6), some (.int l7), w0, some (.int l9), w1, w2], [], S, s, 0, 0) r := gv_T_S fun hS => (by
    cases hS
    rw [fe_L_holds_j190] at h
    exact gv_T_go (B1 := 2) (C1 := 12) (sp := [(208, fun L _ s => match L with
      | [some (.ref 0), some (.int l1), some (.int l2), some (.int l3), some (.int l4), some (.int l5), some (.int l6), some (.int l7), _, some (.int l9), _, _] => f_L_holds_j208 go18 l1 l2 l3 l4 l5 l6 l7 l9 s
      | _ => none)]) (by have := gv_f5_eq; have := gv_f8_eq; have := gv_f15_eq; omega) (by have := gv_f5_eq; have := gv_f8_eq; have := gv_f15_eq; omega) (List.forall_mem_cons.mpr ⟨fun L S s1 h => (by
      dsimp only at h
      split at h
      · exact gv_T_mono (by have := gv_f5_eq; have := gv_f8_eq; have := gv_f15_eq; omega) (by have := gv_f5_eq; have := gv_f8_eq; have := gv_f15_eq; omega) (tv_L_holds_j208 hgo18 _ _ _ _ _ _ _ _ _ _ _ S s1 _ h)
      · cases h), fun _ h => nomatch h⟩) (n := 900) h)
set_option maxHeartbeats 4000000 in
set_option maxRecDepth 100000 in
theorem tv_L_holds_j155 {Bg18 Cg18 : Nat} {go18 : Int32 → Int32 → Int32 → Int32 → Int32 → Int32 → Int32 → ga_M → Option (Int32 × ga_M)} (hgo18 : ∀ (l1 : Int32) (l2 : Int32) (l3 : Int32) (l4 : Int32) (l5 : Int32) (l6 : Int32) (l7 : Int32) (w0 : Option Value) (w1 : Option Value) (w2 : Option Value) (w3 : Option Value) (S : ga_S) (s : ga_M) (r : Int32 × ga_M), go18 l1 l2 l3 l4 l5 l6 l7 s = some r → TV_holds Bg18 Cg18 (18, [some (.ref 0), some (.int l1), some (.int l2), some (.int l3), some (.int l4), some (.int l5), some (.int l6), some (.int l7), w0, w1, w2, w3], [], S, s, 0, 0) r) (l1 : Int32) (l2 : Int32) (l3 : Int32) (l4 : Int32) (l5 : Int32) (l6 : Int32) (l7 : Int32) (l9 : Int32) (w0 : Option Value) (w1 : Option Value) (w2 : Option Value) (S : ga_S) (s : ga_M) (r : Int32 × ga_M) (h : f_L_holds_j155 go18 l1 l2 l3 l4 l5 l6 l7 l9 s = some r) : TV_holds (Bg18 + 20) (Cg18 + 120) (155, [some (.ref 0), some (.int l1), some (.int l2), some (.int l3), some (.int l4), some (.int l5), some (.int l6), some (.int l7), w0, some (.int l9), w1, w2], [], S, s, 0, 0) r := gv_T_S fun hS => (by
    cases hS
    rw [fe_L_holds_j155] at h
    exact gv_T_go (B1 := 6) (C1 := 36) (sp := [(190, fun L _ s => match L with
      | [some (.ref 0), some (.int l1), some (.int l2), some (.int l3), some (.int l4), some (.int l5), some (.int l6), some (.int l7), _, some (.int l9), _, _] => f_L_holds_j190 go18 l1 l2 l3 l4 l5 l6 l7 l9 s
      | _ => none)]) (by have := gv_f5_eq; have := gv_f8_eq; have := gv_f15_eq; omega) (by have := gv_f5_eq; have := gv_f8_eq; have := gv_f15_eq; omega) (List.forall_mem_cons.mpr ⟨fun L S s1 h => (by
      dsimp only at h
      split at h
      · exact gv_T_mono (by have := gv_f5_eq; have := gv_f8_eq; have := gv_f15_eq; omega) (by have := gv_f5_eq; have := gv_f8_eq; have := gv_f15_eq; omega) (tv_L_holds_j190 hgo18 _ _ _ _ _ _ _ _ _ _ _ S s1 _ h)
      · cases h), fun _ h => nomatch h⟩) (n := 900) h)
set_option maxHeartbeats 4000000 in
set_option maxRecDepth 100000 in
theorem tv_L_holds_j105 {Bg18 Cg18 : Nat} {go18 : Int32 → Int32 → Int32 → Int32 → Int32 → Int32 → Int32 → ga_M → Option (Int32 × ga_M)} (hgo18 : ∀ (l1 : Int32) (l2 : Int32) (l3 : Int32) (l4 : Int32) (l5 : Int32) (l6 : Int32) (l7 : Int32) (w0 : Option Value) (w1 : Option Value) (w2 : Option Value) (w3 : Option Value) (S : ga_S) (s : ga_M) (r : Int32 × ga_M), go18 l1 l2 l3 l4 l5 l6 l7 s = some r → TV_holds Bg18 Cg18 (18, [some (.ref 0), some (.int l1), some (.int l2), some (.int l3), some (.int l4), some (.int l5), some (.int l6), some (.int l7), w0, w1, w2, w3], [], S, s, 0, 0) r) (l1 : Int32) (l2 : Int32) (l3 : Int32) (l4 : Int32) (l5 : Int32) (l6 : Int32) (l7 : Int32) (l9 : Int32) (l10 : Int32) (w0 : Option Value) (w1 : Option Value) (S : ga_S) (s : ga_M) (r : Int32 × ga_M) (h : f_L_holds_j105 go18 l1 l2 l3 l4 l5 l6 l7 l9 l10 s = some r) : TV_holds (Bg18 + 29) (Cg18 + 174) (105, [some (.ref 0), some (.int l1), some (.int l2), some (.int l3), some (.int l4), some (.int l5), some (.int l6), some (.int l7), w0, some (.int l9), some (.int l10), w1], [], S, s, 0, 0) r := gv_T_S fun hS => (by
    cases hS
    rw [fe_L_holds_j105] at h
    exact gv_T_go (B1 := 9) (C1 := 54) (sp := [(155, fun L _ s => match L with
      | [some (.ref 0), some (.int l1), some (.int l2), some (.int l3), some (.int l4), some (.int l5), some (.int l6), some (.int l7), _, some (.int l9), _, _] => f_L_holds_j155 go18 l1 l2 l3 l4 l5 l6 l7 l9 s
      | _ => none)]) (by have := gv_f5_eq; have := gv_f8_eq; have := gv_f15_eq; omega) (by have := gv_f5_eq; have := gv_f8_eq; have := gv_f15_eq; omega) (List.forall_mem_cons.mpr ⟨fun L S s1 h => (by
      dsimp only at h
      split at h
      · exact gv_T_mono (by have := gv_f5_eq; have := gv_f8_eq; have := gv_f15_eq; omega) (by have := gv_f5_eq; have := gv_f8_eq; have := gv_f15_eq; omega) (tv_L_holds_j155 hgo18 _ _ _ _ _ _ _ _ _ _ _ S s1 _ h)
      · cases h), fun _ h => nomatch h⟩) (n := 900) h)
set_option maxHeartbeats 4000000 in
set_option maxRecDepth 100000 in
theorem tv_L_holds_h18 : ∀ (n : Nat) (l1 : Int32) (l2 : Int32) (l3 : Int32) (l4 : Int32) (l5 : Int32) (l6 : Int32) (l7 : Int32) (w0 : Option Value) (w1 : Option Value) (w2 : Option Value) (w3 : Option Value) (S : ga_S) (s : ga_M) (r : Int32 × ga_M), f_L_holds_h18 n l1 l2 l3 l4 l5 l6 l7 s = some r → TV_holds (n * 74 + 0) (n * 444 + 0) (18, [some (.ref 0), some (.int l1), some (.int l2), some (.int l3), some (.int l4), some (.int l5), some (.int l6), some (.int l7), w0, w1, w2, w3], [], S, s, 0, 0) r := by
  intro n
  induction n with
  | zero => intro l1 l2 l3 l4 l5 l6 l7 w0 w1 w2 w3 S s r h; cases h
  | succ n ih => intro l1 l2 l3 l4 l5 l6 l7 w0 w1 w2 w3 S s r h; exact gv_T_S fun hS => (by
    cases hS
    exact gv_T_go (B1 := 14) (C1 := 84) (sp := [(105, fun L _ s => match L with
      | [some (.ref 0), some (.int l1), some (.int l2), some (.int l3), some (.int l4), some (.int l5), some (.int l6), some (.int l7), _, some (.int l9), some (.int l10), _] => f_L_holds_j105 (f_L_holds_h18 n) l1 l2 l3 l4 l5 l6 l7 l9 l10 s
      | _ => none), (334, fun L _ s => match L with
      | [some (.ref 0), some (.int l1), some (.int l2), some (.int l3), some (.int l4), some (.int l5), some (.int l6), some (.int l7), _, _, _, _] => f_L_holds_h334 gv_f5 l1 l2 l3 l4 l5 l6 l7 s
      | _ => none)]) (by have := gv_f5_eq; have := gv_f8_eq; have := gv_f15_eq; omega) (by have := gv_f5_eq; have := gv_f8_eq; have := gv_f15_eq; omega) (List.forall_mem_cons.mpr ⟨fun L S s1 h => (by
      dsimp only at h
      split at h
      · exact gv_T_mono (by have := gv_f5_eq; have := gv_f8_eq; have := gv_f15_eq; omega) (by have := gv_f5_eq; have := gv_f8_eq; have := gv_f15_eq; omega) (tv_L_holds_j105 ih _ _ _ _ _ _ _ _ _ _ _ S s1 _ h)
      · cases h), List.forall_mem_cons.mpr ⟨fun L S s1 h => (by
      dsimp only at h
      split at h
      · exact gv_T_mono (by have := gv_f5_eq; have := gv_f8_eq; have := gv_f15_eq; omega) (by have := gv_f5_eq; have := gv_f8_eq; have := gv_f15_eq; omega) (tv_L_holds_h334 gv_f5 _ _ _ _ _ _ _ _ _ _ _ S s1 _ h)
      · cases h), fun _ h => nomatch h⟩⟩) (n := 900) h)
set_option maxRecDepth 100000 in
theorem tv_L_holds (s : ga_M) (r : Int32 × ga_M) (h : f_L_holds s = some r) : TV_holds 592 3552 (0, [some (.ref 0), none, none, none, none, none, none, none, none, none, none, none], [], gaSH, s, 0, 0) r := by
  rw [fe_L_holds] at h
  exact gv_T_go (B1 := 0) (C1 := 0) (sp := [(18, fun L _ s => match L with
      | [some (.ref 0), some (.int l1), some (.int l2), some (.int l3), some (.int l4), some (.int l5), some (.int l6), some (.int l7), _, _, _, _] => f_L_holds_h18 gv_f8 l1 l2 l3 l4 l5 l6 l7 s
      | _ => none)]) (by have := gv_f5_eq; have := gv_f8_eq; have := gv_f15_eq; omega) (by have := gv_f5_eq; have := gv_f8_eq; have := gv_f15_eq; omega) (List.forall_mem_cons.mpr ⟨fun L S s1 h => (by
      dsimp only at h
      split at h
      · exact gv_T_mono (by have := gv_f5_eq; have := gv_f8_eq; have := gv_f15_eq; omega) (by have := gv_f5_eq; have := gv_f8_eq; have := gv_f15_eq; omega) (tv_L_holds_h18 gv_f8 _ _ _ _ _ _ _ _ _ _ _ S s1 _ h)
      · cases h), fun _ h => nomatch h⟩) (n := 900) h
end
