noncomputable section
abbrev TV_law (xs : Nat → Int32) (LN : Nat) (B C : Nat) (cfg : ga_C) (r : Int32 × ga_M) : Prop := gv_T RL cL_law gw_code (gaLaw xs LN) gaCostW (fun _ => []) gaCls 84 false true true none (fun _ _ => True) ga_kI B C cfg r
set_option maxHeartbeats 4000000 in
set_option maxRecDepth 100000 in
theorem tv_L_law2_j1179 {xs : Nat → Int32} {LN : Nat} {Bg106 Cg106 : Nat} {go106 : Int32 → Int32 → ga_M → Option (Int32 × ga_M)} (hgo106 : ∀ (l2 : Int32) (l3 : Int32) (w0 : Option Value) (w1 : Option Value) (w2 : Option Value) (w3 : Option Value) (w4 : Option Value) (w5 : Option Value) (w6 : Option Value) (w7 : Option Value) (w8 : Option Value) (w9 : Option Value) (w10 : Option Value) (w11 : Option Value) (w12 : Option Value) (w13 : Option Value) (w14 : Option Value) (w15 : Option Value) (w16 : Option Value) (w17 : Option Value) (w18 : Option Value) (s : ga_M) (r : Int32 × ga_M), go106 l2 l3 s = some r → TV_law xs LN Bg106 Cg106 (106, [some (.ref 999), some (.ref 0), some (.int l2), some (.int l3), w0, w1, w2, w3, w4, w5, w6, w7, w8, w9, w10, w11, w12, w13, w14, w15, w16, w17, w18], [], gaSH, s, 0, 0) r) (l2 : Int32) (l3 : Int32) (l4 : Int32) (l5 : Int32) (l10 : Int32) (l11 : Int32) (l12 : Int32) (l13 : Int32) (l14 : Int32) (l15 : Int32) (l18 : Int32) (w0 : Option Value) (w1 : Option Value) (w2 : Option Value) (w3 : Option Value) (w4 : Option Value) (w5 : Option Value) (w6 : Option Value) (w7 : Option Value) (w8 : Option Value) (w9 : Option Value) (s : ga_M) (r : Int32 × ga_M) (h : f_L_law2_j1179 xs LN go106 l2 l3 l4 l5 l10 l11 l12 l13 l14 l15 l18 s = some r) : TV_law xs LN (Bg106 + 601) (Cg106 + 3606) (1179, [some (.ref 999), some (.ref 0), some (.int l2), some (.int l3), some (.int l4), some (.int l5), w0, w1, w2, w3, some (.int l10), some (.int l11), some (.int l12), some (.int l13), some (.int l14), some (.int l15), w4, w5, some (.int l18), w6, w7, w8, w9], [], gaSH, s, 0, 0) r := (by
    rw [fe_L_law2_j1179] at h
    exact gv_T_go (B1 := 601) (C1 := 3606) (sp := [(106, fun L S s => match L with
      | [some (.ref 999), some (.ref 0), some (.int l2), some (.int l3), _, _, _, _, _, _, _, _, _, _, _, _, _, _, _, _, _, _, _] => bif gk_eq S gaSH then go106 l2 l3 s else none
      | _ => none)]) (by have := gv_f5_eq; have := gv_f8_eq; have := gv_f15_eq; omega) (by have := gv_f5_eq; have := gv_f8_eq; have := gv_f15_eq; omega) (List.forall_mem_cons.mpr ⟨fun L S s1 h => (by
      dsimp only at h
      split at h
      · obtain ⟨hS, h2⟩ := gc_bif h
        have eS := gk_eq_eq hS
        subst eS
        exact gv_T_mono (by have := gv_f5_eq; have := gv_f8_eq; have := gv_f15_eq; omega) (by have := gv_f5_eq; have := gv_f8_eq; have := gv_f15_eq; omega) (hgo106 _ _ _ _ _ _ _ _ _ _ _ _ _ _ _ _ _ _ _ _ _ s1 _ h2)
      · cases h), fun _ h => nomatch h⟩) (n := 900) h)
set_option maxHeartbeats 4000000 in
set_option maxRecDepth 100000 in
theorem tv_L_law2_j1165 {xs : Nat → Int32} {LN : Nat} {Bg106 Cg106 : Nat} {go106 : Int32 → Int32 → ga_M → Option (Int32 × ga_M)} (hgo106 : ∀ (l2 : Int32) (l3 : Int32) (w0 : Option Value) (w1 : Option Value) (w2 : Option Value) (w3 : Option Value) (w4 : Option Value) (w5 : Option Value) (w6 : Option Value) (w7 : Option Value) (w8 : Option Value) (w9 : Option Value) (w10 : Option Value) (w11 : Option Value) (w12 : Option Value) (w13 : Option Value) (w14 : Option Value) (w15 : Option Value) (w16 : Option Value) (w17 : Option Value) (w18 : Option Value) (s : ga_M) (r : Int32 × ga_M), go106 l2 l3 s = some r → TV_law xs LN Bg106 Cg106 (106, [some (.ref 999), some (.ref 0), some (.int l2), some (.int l3), w0, w1, w2, w3, w4, w5, w6, w7, w8, w9, w10, w11, w12, w13, w14, w15, w16, w17, w18], [], gaSH, s, 0, 0) r) (l2 : Int32) (l3 : Int32) (l4 : Int32) (l5 : Int32) (l10 : Int32) (l11 : Int32) (l12 : Int32) (l13 : Int32) (l14 : Int32) (l15 : Int32) (l18 : Int32) (w0 : Option Value) (w1 : Option Value) (w2 : Option Value) (w3 : Option Value) (w4 : Option Value) (w5 : Option Value) (w6 : Option Value) (w7 : Option Value) (w8 : Option Value) (w9 : Option Value) (s : ga_M) (r : Int32 × ga_M) (h : f_L_law2_j1165 xs LN go106 l2 l3 l4 l5 l10 l11 l12 l13 l14 l15 l18 s = some r) : TV_law xs LN (Bg106 + 601) (Cg106 + 3606) (1165, [some (.ref 999), some (.ref 0), some (.int l2), some (.int l3), some (.int l4), some (.int l5), w0, w1, w2, w3, some (.int l10), some (.int l11), some (.int l12), some (.int l13), some (.int l14), some (.int l15), w4, w5, some (.int l18), w6, w7, w8, w9], [], gaSH, s, 0, 0) r := (by
    rw [fe_L_law2_j1165] at h
    exact gv_T_go (B1 := 0) (C1 := 0) (sp := [(1179, fun L S s => match L with
      | [some (.ref 999), some (.ref 0), some (.int l2), some (.int l3), some (.int l4), some (.int l5), _, _, _, _, some (.int l10), some (.int l11), some (.int l12), some (.int l13), some (.int l14), some (.int l15), _, _, some (.int l18), _, _, _, _] => bif gk_eq S gaSH then f_L_law2_j1179 xs LN go106 l2 l3 l4 l5 l10 l11 l12 l13 l14 l15 l18 s else none
      | _ => none)]) (by have := gv_f5_eq; have := gv_f8_eq; have := gv_f15_eq; omega) (by have := gv_f5_eq; have := gv_f8_eq; have := gv_f15_eq; omega) (List.forall_mem_cons.mpr ⟨fun L S s1 h => (by
      dsimp only at h
      split at h
      · obtain ⟨hS, h2⟩ := gc_bif h
        have eS := gk_eq_eq hS
        subst eS
        exact gv_T_mono (by have := gv_f5_eq; have := gv_f8_eq; have := gv_f15_eq; omega) (by have := gv_f5_eq; have := gv_f8_eq; have := gv_f15_eq; omega) (tv_L_law2_j1179 hgo106 _ _ _ _ _ _ _ _ _ _ _ _ _ _ _ _ _ _ _ _ _ s1 _ h2)
      · cases h), fun _ h => nomatch h⟩) (n := 900) h)
set_option maxHeartbeats 4000000 in
set_option maxRecDepth 100000 in
theorem tv_L_law2_j316 {xs : Nat → Int32} {LN : Nat} {Bg106 Cg106 : Nat} {go106 : Int32 → Int32 → ga_M → Option (Int32 × ga_M)} (hgo106 : ∀ (l2 : Int32) (l3 : Int32) (w0 : Option Value) (w1 : Option Value) (w2 : Option Value) (w3 : Option Value) (w4 : Option Value) (w5 : Option Value) (w6 : Option Value) (w7 : Option Value) (w8 : Option Value) (w9 : Option Value) (w10 : Option Value) (w11 : Option Value) (w12 : Option Value) (w13 : Option Value) (w14 : Option Value) (w15 : Option Value) (w16 : Option Value) (w17 : Option Value) (w18 : Option Value) (s : ga_M) (r : Int32 × ga_M), go106 l2 l3 s = some r → TV_law xs LN Bg106 Cg106 (106, [some (.ref 999), some (.ref 0), some (.int l2), some (.int l3), w0, w1, w2, w3, w4, w5, w6, w7, w8, w9, w10, w11, w12, w13, w14, w15, w16, w17, w18], [], gaSH, s, 0, 0) r) (l2 : Int32) (l3 : Int32) (l4 : Int32) (l5 : Int32) (l7 : Int32) (l10 : Int32) (l11 : Int32) (l12 : Int32) (l13 : Int32) (l14 : Int32) (l15 : Int32) (l18 : Int32) (w0 : Option Value) (w1 : Option Value) (w2 : Option Value) (w3 : Option Value) (w4 : Option Value) (w5 : Option Value) (w6 : Option Value) (w7 : Option Value) (w8 : Option Value) (s : ga_M) (r : Int32 × ga_M) (h : f_L_law2_j316 xs LN go106 l2 l3 l4 l5 l7 l10 l11 l12 l13 l14 l15 l18 s = some r) : TV_law xs LN (Bg106 + 608) (Cg106 + 3648) (316, [some (.ref 999), some (.ref 0), some (.int l2), some (.int l3), some (.int l4), some (.int l5), w0, some (.int l7), w1, w2, some (.int l10), some (.int l11), some (.int l12), some (.int l13), some (.int l14), some (.int l15), w3, w4, some (.int l18), w5, w6, w7, w8], [], gaSH, s, 0, 0) r := (by
    rw [fe_L_law2_j316] at h
    exact gv_T_go (B1 := 7) (C1 := 42) (sp := [(1165, fun L S s => match L with
      | [some (.ref 999), some (.ref 0), some (.int l2), some (.int l3), some (.int l4), some (.int l5), _, _, _, _, some (.int l10), some (.int l11), some (.int l12), some (.int l13), some (.int l14), some (.int l15), _, _, some (.int l18), _, _, _, _] => bif gk_eq S gaSH then f_L_law2_j1165 xs LN go106 l2 l3 l4 l5 l10 l11 l12 l13 l14 l15 l18 s else none
      | _ => none)]) (by have := gv_f5_eq; have := gv_f8_eq; have := gv_f15_eq; omega) (by have := gv_f5_eq; have := gv_f8_eq; have := gv_f15_eq; omega) (List.forall_mem_cons.mpr ⟨fun L S s1 h => (by
      dsimp only at h
      split at h
      · obtain ⟨hS, h2⟩ := gc_bif h
        have eS := gk_eq_eq hS
        subst eS
        exact gv_T_mono (by have := gv_f5_eq; have := gv_f8_eq; have := gv_f15_eq; omega) (by have := gv_f5_eq; have := gv_f8_eq; have := gv_f15_eq; omega) (tv_L_law2_j1165 hgo106 _ _ _ _ _ _ _ _ _ _ _ _ _ _ _ _ _ _ _ _ _ s1 _ h2)
      · cases h), fun _ h => nomatch h⟩) (n := 900) h)
set_option maxHeartbeats 4000000 in
set_option maxRecDepth 100000 in
theorem tv_L_law2_j414 {xs : Nat → Int32} {LN : Nat} {Bg106 Cg106 : Nat} {go106 : Int32 → Int32 → ga_M → Option (Int32 × ga_M)} (hgo106 : ∀ (l2 : Int32) (l3 : Int32) (w0 : Option Value) (w1 : Option Value) (w2 : Option Value) (w3 : Option Value) (w4 : Option Value) (w5 : Option Value) (w6 : Option Value) (w7 : Option Value) (w8 : Option Value) (w9 : Option Value) (w10 : Option Value) (w11 : Option Value) (w12 : Option Value) (w13 : Option Value) (w14 : Option Value) (w15 : Option Value) (w16 : Option Value) (w17 : Option Value) (w18 : Option Value) (s : ga_M) (r : Int32 × ga_M), go106 l2 l3 s = some r → TV_law xs LN Bg106 Cg106 (106, [some (.ref 999), some (.ref 0), some (.int l2), some (.int l3), w0, w1, w2, w3, w4, w5, w6, w7, w8, w9, w10, w11, w12, w13, w14, w15, w16, w17, w18], [], gaSH, s, 0, 0) r) (l2 : Int32) (l3 : Int32) (l4 : Int32) (l5 : Int32) (l7 : Int32) (l10 : Int32) (l11 : Int32) (l12 : Int32) (l13 : Int32) (l14 : Int32) (l15 : Int32) (l16 : Int32) (w0 : Option Value) (w1 : Option Value) (w2 : Option Value) (w3 : Option Value) (w4 : Option Value) (w5 : Option Value) (w6 : Option Value) (w7 : Option Value) (w8 : Option Value) (s : ga_M) (r : Int32 × ga_M) (h : f_L_law2_j414 xs LN go106 l2 l3 l4 l5 l7 l10 l11 l12 l13 l14 l15 l16 s = some r) : TV_law xs LN (Bg106 + 610) (Cg106 + 3660) (414, [some (.ref 999), some (.ref 0), some (.int l2), some (.int l3), some (.int l4), some (.int l5), w0, some (.int l7), w1, w2, some (.int l10), some (.int l11), some (.int l12), some (.int l13), some (.int l14), some (.int l15), some (.int l16), w3, w4, w5, w6, w7, w8], [], gaSH, s, 0, 0) r := (by
    rw [fe_L_law2_j414] at h
    exact gv_T_go (B1 := 9) (C1 := 54) (sp := [(1165, fun L S s => match L with
      | [some (.ref 999), some (.ref 0), some (.int l2), some (.int l3), some (.int l4), some (.int l5), _, _, _, _, some (.int l10), some (.int l11), some (.int l12), some (.int l13), some (.int l14), some (.int l15), _, _, some (.int l18), _, _, _, _] => bif gk_eq S gaSH then f_L_law2_j1165 xs LN go106 l2 l3 l4 l5 l10 l11 l12 l13 l14 l15 l18 s else none
      | _ => none)]) (by have := gv_f5_eq; have := gv_f8_eq; have := gv_f15_eq; omega) (by have := gv_f5_eq; have := gv_f8_eq; have := gv_f15_eq; omega) (List.forall_mem_cons.mpr ⟨fun L S s1 h => (by
      dsimp only at h
      split at h
      · obtain ⟨hS, h2⟩ := gc_bif h
        have eS := gk_eq_eq hS
        subst eS
        exact gv_T_mono (by have := gv_f5_eq; have := gv_f8_eq; have := gv_f15_eq; omega) (by have := gv_f5_eq; have := gv_f8_eq; have := gv_f15_eq; omega) (tv_L_law2_j1165 hgo106 _ _ _ _ _ _ _ _ _ _ _ _ _ _ _ _ _ _ _ _ _ s1 _ h2)
      · cases h), fun _ h => nomatch h⟩) (n := 900) h)
set_option maxHeartbeats 4000000 in
set_option maxRecDepth 100000 in
theorem tv_L_law2_j502 {xs : Nat → Int32} {LN : Nat} {Bg106 Cg106 : Nat} {go106 : Int32 → Int32 → ga_M → Option (Int32 × ga_M)} (hgo106 : ∀ (l2 : Int32) (l3 : Int32) (w0 : Option Value) (w1 : Option Value) (w2 : Option Value) (w3 : Option Value) (w4 : Option Value) (w5 : Option Value) (w6 : Option Value) (w7 : Option Value) (w8 : Option Value) (w9 : Option Value) (w10 : Option Value) (w11 : Option Value) (w12 : Option Value) (w13 : Option Value) (w14 : Option Value) (w15 : Option Value) (w16 : Option Value) (w17 : Option Value) (w18 : Option Value) (s : ga_M) (r : Int32 × ga_M), go106 l2 l3 s = some r → TV_law xs LN Bg106 Cg106 (106, [some (.ref 999), some (.ref 0), some (.int l2), some (.int l3), w0, w1, w2, w3, w4, w5, w6, w7, w8, w9, w10, w11, w12, w13, w14, w15, w16, w17, w18], [], gaSH, s, 0, 0) r) (l2 : Int32) (l3 : Int32) (l4 : Int32) (l5 : Int32) (l7 : Int32) (l10 : Int32) (l11 : Int32) (l12 : Int32) (l13 : Int32) (l14 : Int32) (l15 : Int32) (w0 : Option Value) (w1 : Option Value) (w2 : Option Value) (w3 : Option Value) (w4 : Option Value) (w5 : Option Value) (w6 : Option Value) (w7 : Option Value) (w8 : Option Value) (w9 : Option Value) (s : ga_M) (r : Int32 × ga_M) (h : f_L_law2_j502 xs LN go106 l2 l3 l4 l5 l7 l10 l11 l12 l13 l14 l15 s = some r) : TV_law xs LN (Bg106 + 611) (Cg106 + 3666) (502, [some (.ref 999), some (.ref 0), some (.int l2), some (.int l3), some (.int l4), some (.int l5), w0, some (.int l7), w1, w2, some (.int l10), some (.int l11), some (.int l12), some (.int l13), some (.int l14), some (.int l15), w3, w4, w5, w6, w7, w8, w9], [], gaSH, s, 0, 0) r := (by
    rw [fe_L_law2_j502] at h
    exact gv_T_go (B1 := 10) (C1 := 60) (sp := [(1165, fun L S s => match L with
      | [some (.ref 999), some (.ref 0), some (.int l2), some (.int l3), some (.int l4), some (.int l5), _, _, _, _, some (.int l10), some (.int l11), some (.int l12), some (.int l13), some (.int l14), some (.int l15), _, _, some (.int l18), _, _, _, _] => bif gk_eq S gaSH then f_L_law2_j1165 xs LN go106 l2 l3 l4 l5 l10 l11 l12 l13 l14 l15 l18 s else none
      | _ => none)]) (by have := gv_f5_eq; have := gv_f8_eq; have := gv_f15_eq; omega) (by have := gv_f5_eq; have := gv_f8_eq; have := gv_f15_eq; omega) (List.forall_mem_cons.mpr ⟨fun L S s1 h => (by
      dsimp only at h
      split at h
      · obtain ⟨hS, h2⟩ := gc_bif h
        have eS := gk_eq_eq hS
        subst eS
        exact gv_T_mono (by have := gv_f5_eq; have := gv_f8_eq; have := gv_f15_eq; omega) (by have := gv_f5_eq; have := gv_f8_eq; have := gv_f15_eq; omega) (tv_L_law2_j1165 hgo106 _ _ _ _ _ _ _ _ _ _ _ _ _ _ _ _ _ _ _ _ _ s1 _ h2)
      · cases h), fun _ h => nomatch h⟩) (n := 900) h)
set_option maxHeartbeats 4000000 in
set_option maxRecDepth 100000 in
theorem tv_L_law2_j661 {xs : Nat → Int32} {LN : Nat} {Bg106 Cg106 : Nat} {go106 : Int32 → Int32 → ga_M → Option (Int32 × ga_M)} (hgo106 : ∀ (l2 : Int32) (l3 : Int32) (w0 : Option Value) (w1 : Option Value) (w2 : Option Value) (w3 : Option Value) (w4 : Option Value) (w5 : Option Value) (w6 : Option Value) (w7 : Option Value) (w8 : Option Value) (w9 : Option Value) (w10 : Option Value) (w11 : Option Value) (w12 : Option Value) (w13 : Option Value) (w14 : Option Value) (w15 : Option Value) (w16 : Option Value) (w17 : Option Value) (w18 : Option Value) (s : ga_M) (r : Int32 × ga_M), go106 l2 l3 s = some r → TV_law xs LN Bg106 Cg106 (106, [some (.ref 999), some (.ref 0), some (.int l2), some (.int l3), w0, w1, w2, w3, w4, w5, w6, w7, w8, w9, w10, w11, w12, w13, w14, w15, w16, w17, w18], [], gaSH, s, 0, 0) r) (l2 : Int32) (l3 : Int32) (l4 : Int32) (l5 : Int32) (l10 : Int32) (l11 : Int32) (l12 : Int32) (l13 : Int32) (l14 : Int32) (l15 : Int32) (l19 : Int32) (l20 : Int32) (l21 : Int32) (l22 : Int32) (w0 : Option Value) (w1 : Option Value) (w2 : Option Value) (w3 : Option Value) (w4 : Option Value) (w5 : Option Value) (w6 : Option Value) (s : ga_M) (r : Int32 × ga_M) (h : f_L_law2_j661 xs LN go106 l2 l3 l4 l5 l10 l11 l12 l13 l14 l15 l19 l20 l21 l22 s = some r) : TV_law xs LN (Bg106 + 608) (Cg106 + 3648) (661, [some (.ref 999), some (.ref 0), some (.int l2), some (.int l3), some (.int l4), some (.int l5), w0, w1, w2, w3, some (.int l10), some (.int l11), some (.int l12), some (.int l13), some (.int l14), some (.int l15), w4, w5, w6, some (.int l19), some (.int l20), some (.int l21), some (.int l22)], [], gaSH, s, 0, 0) r := (by
    rw [fe_L_law2_j661] at h
    exact gv_T_go (B1 := 7) (C1 := 42) (sp := [(1165, fun L S s => match L with
      | [some (.ref 999), some (.ref 0), some (.int l2), some (.int l3), some (.int l4), some (.int l5), _, _, _, _, some (.int l10), some (.int l11), some (.int l12), some (.int l13), some (.int l14), some (.int l15), _, _, some (.int l18), _, _, _, _] => bif gk_eq S gaSH then f_L_law2_j1165 xs LN go106 l2 l3 l4 l5 l10 l11 l12 l13 l14 l15 l18 s else none
      | _ => none)]) (by have := gv_f5_eq; have := gv_f8_eq; have := gv_f15_eq; omega) (by have := gv_f5_eq; have := gv_f8_eq; have := gv_f15_eq; omega) (List.forall_mem_cons.mpr ⟨fun L S s1 h => (by
      dsimp only at h
      split at h
      · obtain ⟨hS, h2⟩ := gc_bif h
        have eS := gk_eq_eq hS
        subst eS
        exact gv_T_mono (by have := gv_f5_eq; have := gv_f8_eq; have := gv_f15_eq; omega) (by have := gv_f5_eq; have := gv_f8_eq; have := gv_f15_eq; omega) (tv_L_law2_j1165 hgo106 _ _ _ _ _ _ _ _ _ _ _ _ _ _ _ _ _ _ _ _ _ s1 _ h2)
      · cases h), fun _ h => nomatch h⟩) (n := 900) h)
set_option maxHeartbeats 4000000 in
set_option maxRecDepth 100000 in
theorem tv_L_law2_j643 {xs : Nat → Int32} {LN : Nat} {Bg106 Cg106 : Nat} {go106 : Int32 → Int32 → ga_M → Option (Int32 × ga_M)} (hgo106 : ∀ (l2 : Int32) (l3 : Int32) (w0 : Option Value) (w1 : Option Value) (w2 : Option Value) (w3 : Option Value) (w4 : Option Value) (w5 : Option Value) (w6 : Option Value) (w7 : Option Value) (w8 : Option Value) (w9 : Option Value) (w10 : Option Value) (w11 : Option Value) (w12 : Option Value) (w13 : Option Value) (w14 : Option Value) (w15 : Option Value) (w16 : Option Value) (w17 : Option Value) (w18 : Option Value) (s : ga_M) (r : Int32 × ga_M), go106 l2 l3 s = some r → TV_law xs LN Bg106 Cg106 (106, [some (.ref 999), some (.ref 0), some (.int l2), some (.int l3), w0, w1, w2, w3, w4, w5, w6, w7, w8, w9, w10, w11, w12, w13, w14, w15, w16, w17, w18], [], gaSH, s, 0, 0) r) (l2 : Int32) (l3 : Int32) (l4 : Int32) (l5 : Int32) (l10 : Int32) (l11 : Int32) (l12 : Int32) (l13 : Int32) (l14 : Int32) (l15 : Int32) (l19 : Int32) (l20 : Int32) (l21 : Int32) (w0 : Option Value) (w1 : Option Value) (w2 : Option Value) (w3 : Option Value) (w4 : Option Value) (w5 : Option Value) (w6 : Option Value) (w7 : Option Value) (s : ga_M) (r : Int32 × ga_M) (h : f_L_law2_j643 xs LN go106 l2 l3 l4 l5 l10 l11 l12 l13 l14 l15 l19 l20 l21 s = some r) : TV_law xs LN (Bg106 + 610) (Cg106 + 3660) (643, [some (.ref 999), some (.ref 0), some (.int l2), some (.int l3), some (.int l4), some (.int l5), w0, w1, w2, w3, some (.int l10), some (.int l11), some (.int l12), some (.int l13), some (.int l14), some (.int l15), w4, w5, w6, some (.int l19), some (.int l20), some (.int l21), w7], [], gaSH, s, 0, 0) r := (by
    rw [fe_L_law2_j643] at h
    exact gv_T_go (B1 := 2) (C1 := 12) (sp := [(661, fun L S s => match L with
      | [some (.ref 999), some (.ref 0), some (.int l2), some (.int l3), some (.int l4), some (.int l5), _, _, _, _, some (.int l10), some (.int l11), some (.int l12), some (.int l13), some (.int l14), some (.int l15), _, _, _, some (.int l19), some (.int l20), some (.int l21), some (.int l22)] => bif gk_eq S gaSH then f_L_law2_j661 xs LN go106 l2 l3 l4 l5 l10 l11 l12 l13 l14 l15 l19 l20 l21 l22 s else none
      | _ => none)]) (by have := gv_f5_eq; have := gv_f8_eq; have := gv_f15_eq; omega) (by have := gv_f5_eq; have := gv_f8_eq; have := gv_f15_eq; omega) (List.forall_mem_cons.mpr ⟨fun L S s1 h => (by
      dsimp only at h
      split at h
      · obtain ⟨hS, h2⟩ := gc_bif h
        have eS := gk_eq_eq hS
        subst eS
        exact gv_T_mono (by have := gv_f5_eq; have := gv_f8_eq; have := gv_f15_eq; omega) (by have := gv_f5_eq; have := gv_f8_eq; have := gv_f15_eq; omega) (tv_L_law2_j661 hgo106 _ _ _ _ _ _ _ _ _ _ _ _ _ _ _ _ _ _ _ _ _ s1 _ h2)
      · cases h), fun _ h => nomatch h⟩) (n := 900) h)
set_option maxHeartbeats 4000000 in
set_option maxRecDepth 100000 in
theorem tv_L_law2_j622 {xs : Nat → Int32} {LN : Nat} {Bg106 Cg106 : Nat} {go106 : Int32 → Int32 → ga_M → Option (Int32 × ga_M)} (hgo106 : ∀ (l2 : Int32) (l3 : Int32) (w0 : Option Value) (w1 : Option Value) (w2 : Option Value) (w3 : Option Value) (w4 : Option Value) (w5 : Option Value) (w6 : Option Value) (w7 : Option Value) (w8 : Option Value) (w9 : Option Value) (w10 : Option Value) (w11 : Option Value) (w12 : Option Value) (w13 : Option Value) (w14 : Option Value) (w15 : Option Value) (w16 : Option Value) (w17 : Option Value) (w18 : Option Value) (s : ga_M) (r : Int32 × ga_M), go106 l2 l3 s = some r → TV_law xs LN Bg106 Cg106 (106, [some (.ref 999), some (.ref 0), some (.int l2), some (.int l3), w0, w1, w2, w3, w4, w5, w6, w7, w8, w9, w10, w11, w12, w13, w14, w15, w16, w17, w18], [], gaSH, s, 0, 0) r) (l2 : Int32) (l3 : Int32) (l4 : Int32) (l5 : Int32) (l10 : Int32) (l11 : Int32) (l12 : Int32) (l13 : Int32) (l14 : Int32) (l15 : Int32) (l19 : Int32) (l20 : Int32) (w0 : Option Value) (w1 : Option Value) (w2 : Option Value) (w3 : Option Value) (w4 : Option Value) (w5 : Option Value) (w6 : Option Value) (w7 : Option Value) (w8 : Option Value) (s : ga_M) (r : Int32 × ga_M) (h : f_L_law2_j622 xs LN go106 l2 l3 l4 l5 l10 l11 l12 l13 l14 l15 l19 l20 s = some r) : TV_law xs LN (Bg106 + 612) (Cg106 + 3672) (622, [some (.ref 999), some (.ref 0), some (.int l2), some (.int l3), some (.int l4), some (.int l5), w0, w1, w2, w3, some (.int l10), some (.int l11), some (.int l12), some (.int l13), some (.int l14), some (.int l15), w4, w5, w6, some (.int l19), some (.int l20), w7, w8], [], gaSH, s, 0, 0) r := (by
    rw [fe_L_law2_j622] at h
    exact gv_T_go (B1 := 2) (C1 := 12) (sp := [(643, fun L S s => match L with
      | [some (.ref 999), some (.ref 0), some (.int l2), some (.int l3), some (.int l4), some (.int l5), _, _, _, _, some (.int l10), some (.int l11), some (.int l12), some (.int l13), some (.int l14), some (.int l15), _, _, _, some (.int l19), some (.int l20), some (.int l21), _] => bif gk_eq S gaSH then f_L_law2_j643 xs LN go106 l2 l3 l4 l5 l10 l11 l12 l13 l14 l15 l19 l20 l21 s else none
      | _ => none)]) (by have := gv_f5_eq; have := gv_f8_eq; have := gv_f15_eq; omega) (by have := gv_f5_eq; have := gv_f8_eq; have := gv_f15_eq; omega) (List.forall_mem_cons.mpr ⟨fun L S s1 h => (by
      dsimp only at h
      split at h
      · obtain ⟨hS, h2⟩ := gc_bif h
        have eS := gk_eq_eq hS
        subst eS
        exact gv_T_mono (by have := gv_f5_eq; have := gv_f8_eq; have := gv_f15_eq; omega) (by have := gv_f5_eq; have := gv_f8_eq; have := gv_f15_eq; omega) (tv_L_law2_j643 hgo106 _ _ _ _ _ _ _ _ _ _ _ _ _ _ _ _ _ _ _ _ _ s1 _ h2)
      · cases h), fun _ h => nomatch h⟩) (n := 900) h)
set_option maxHeartbeats 4000000 in
set_option maxRecDepth 100000 in
theorem tv_L_law2_j596 {xs : Nat → Int32} {LN : Nat} {Bg106 Cg106 : Nat} {go106 : Int32 → Int32 → ga_M → Option (Int32 × ga_M)} (hgo106 : ∀ (l2 : Int32) (l3 : Int32) (w0 : Option Value) (w1 : Option Value) (w2 : Option Value) (w3 : Option Value) (w4 : Option Value) (w5 : Option Value) (w6 : Option Value) (w7 : Option Value) (w8 : Option Value) (w9 : Option Value) (w10 : Option Value) (w11 : Option Value) (w12 : Option Value) (w13 : Option Value) (w14 : Option Value) (w15 : Option Value) (w16 : Option Value) (w17 : Option Value) (w18 : Option Value) (s : ga_M) (r : Int32 × ga_M), go106 l2 l3 s = some r → TV_law xs LN Bg106 Cg106 (106, [some (.ref 999), some (.ref 0), some (.int l2), some (.int l3), w0, w1, w2, w3, w4, w5, w6, w7, w8, w9, w10, w11, w12, w13, w14, w15, w16, w17, w18], [], gaSH, s, 0, 0) r) (l2 : Int32) (l3 : Int32) (l4 : Int32) (l5 : Int32) (l10 : Int32) (l11 : Int32) (l12 : Int32) (l13 : Int32) (l14 : Int32) (l15 : Int32) (w0 : Option Value) (w1 : Option Value) (w2 : Option Value) (w3 : Option Value) (w4 : Option Value) (w5 : Option Value) (w6 : Option Value) (w7 : Option Value) (w8 : Option Value) (w9 : Option Value) (w10 : Option Value) (s : ga_M) (r : Int32 × ga_M) (h : f_L_law2_j596 xs LN go106 l2 l3 l4 l5 l10 l11 l12 l13 l14 l15 s = some r) : TV_law xs LN (Bg106 + 615) (Cg106 + 3690) (596, [some (.ref 999), some (.ref 0), some (.int l2), some (.int l3), some (.int l4), some (.int l5), w0, w1, w2, w3, some (.int l10), some (.int l11), some (.int l12), some (.int l13), some (.int l14), some (.int l15), w4, w5, w6, w7, w8, w9, w10], [], gaSH, s, 0, 0) r := (by
    rw [fe_L_law2_j596] at h
    exact gv_T_go (B1 := 3) (C1 := 18) (sp := [(622, fun L S s => match L with
      | [some (.ref 999), some (.ref 0), some (.int l2), some (.int l3), some (.int l4), some (.int l5), _, _, _, _, some (.int l10), some (.int l11), some (.int l12), some (.int l13), some (.int l14), some (.int l15), _, _, _, some (.int l19), some (.int l20), _, _] => bif gk_eq S gaSH then f_L_law2_j622 xs LN go106 l2 l3 l4 l5 l10 l11 l12 l13 l14 l15 l19 l20 s else none
      | _ => none)]) (by have := gv_f5_eq; have := gv_f8_eq; have := gv_f15_eq; omega) (by have := gv_f5_eq; have := gv_f8_eq; have := gv_f15_eq; omega) (List.forall_mem_cons.mpr ⟨fun L S s1 h => (by
      dsimp only at h
      split at h
      · obtain ⟨hS, h2⟩ := gc_bif h
        have eS := gk_eq_eq hS
        subst eS
        exact gv_T_mono (by have := gv_f5_eq; have := gv_f8_eq; have := gv_f15_eq; omega) (by have := gv_f5_eq; have := gv_f8_eq; have := gv_f15_eq; omega) (tv_L_law2_j622 hgo106 _ _ _ _ _ _ _ _ _ _ _ _ _ _ _ _ _ _ _ _ _ s1 _ h2)
      · cases h), fun _ h => nomatch h⟩) (n := 900) h)
set_option maxHeartbeats 4000000 in
set_option maxRecDepth 100000 in
theorem tv_L_law2_j752 {xs : Nat → Int32} {LN : Nat} {Bg106 Cg106 : Nat} {go106 : Int32 → Int32 → ga_M → Option (Int32 × ga_M)} (hgo106 : ∀ (l2 : Int32) (l3 : Int32) (w0 : Option Value) (w1 : Option Value) (w2 : Option Value) (w3 : Option Value) (w4 : Option Value) (w5 : Option Value) (w6 : Option Value) (w7 : Option Value) (w8 : Option Value) (w9 : Option Value) (w10 : Option Value) (w11 : Option Value) (w12 : Option Value) (w13 : Option Value) (w14 : Option Value) (w15 : Option Value) (w16 : Option Value) (w17 : Option Value) (w18 : Option Value) (s : ga_M) (r : Int32 × ga_M), go106 l2 l3 s = some r → TV_law xs LN Bg106 Cg106 (106, [some (.ref 999), some (.ref 0), some (.int l2), some (.int l3), w0, w1, w2, w3, w4, w5, w6, w7, w8, w9, w10, w11, w12, w13, w14, w15, w16, w17, w18], [], gaSH, s, 0, 0) r) (l2 : Int32) (l3 : Int32) (l4 : Int32) (l5 : Int32) (l10 : Int32) (l11 : Int32) (l12 : Int32) (l13 : Int32) (l14 : Int32) (l15 : Int32) (l18 : Int32) (w0 : Option Value) (w1 : Option Value) (w2 : Option Value) (w3 : Option Value) (w4 : Option Value) (w5 : Option Value) (w6 : Option Value) (w7 : Option Value) (w8 : Option Value) (w9 : Option Value) (s : ga_M) (r : Int32 × ga_M) (h : f_L_law2_j752 xs LN go106 l2 l3 l4 l5 l10 l11 l12 l13 l14 l15 l18 s = some r) : TV_law xs LN (Bg106 + 602) (Cg106 + 3612) (752, [some (.ref 999), some (.ref 0), some (.int l2), some (.int l3), some (.int l4), some (.int l5), w0, w1, w2, w3, some (.int l10), some (.int l11), some (.int l12), some (.int l13), some (.int l14), some (.int l15), w4, w5, some (.int l18), w6, w7, w8, w9], [], gaSH, s, 0, 0) r := (by
    rw [fe_L_law2_j752] at h
    exact gv_T_go (B1 := 1) (C1 := 6) (sp := [(1165, fun L S s => match L with
      | [some (.ref 999), some (.ref 0), some (.int l2), some (.int l3), some (.int l4), some (.int l5), _, _, _, _, some (.int l10), some (.int l11), some (.int l12), some (.int l13), some (.int l14), some (.int l15), _, _, some (.int l18), _, _, _, _] => bif gk_eq S gaSH then f_L_law2_j1165 xs LN go106 l2 l3 l4 l5 l10 l11 l12 l13 l14 l15 l18 s else none
      | _ => none)]) (by have := gv_f5_eq; have := gv_f8_eq; have := gv_f15_eq; omega) (by have := gv_f5_eq; have := gv_f8_eq; have := gv_f15_eq; omega) (List.forall_mem_cons.mpr ⟨fun L S s1 h => (by
      dsimp only at h
      split at h
      · obtain ⟨hS, h2⟩ := gc_bif h
        have eS := gk_eq_eq hS
        subst eS
        exact gv_T_mono (by have := gv_f5_eq; have := gv_f8_eq; have := gv_f15_eq; omega) (by have := gv_f5_eq; have := gv_f8_eq; have := gv_f15_eq; omega) (tv_L_law2_j1165 hgo106 _ _ _ _ _ _ _ _ _ _ _ _ _ _ _ _ _ _ _ _ _ s1 _ h2)
      · cases h), fun _ h => nomatch h⟩) (n := 900) h)
set_option maxHeartbeats 4000000 in
set_option maxRecDepth 100000 in
theorem tv_L_law2_j774 {xs : Nat → Int32} {LN : Nat} {Bg106 Cg106 : Nat} {go106 : Int32 → Int32 → ga_M → Option (Int32 × ga_M)} (hgo106 : ∀ (l2 : Int32) (l3 : Int32) (w0 : Option Value) (w1 : Option Value) (w2 : Option Value) (w3 : Option Value) (w4 : Option Value) (w5 : Option Value) (w6 : Option Value) (w7 : Option Value) (w8 : Option Value) (w9 : Option Value) (w10 : Option Value) (w11 : Option Value) (w12 : Option Value) (w13 : Option Value) (w14 : Option Value) (w15 : Option Value) (w16 : Option Value) (w17 : Option Value) (w18 : Option Value) (s : ga_M) (r : Int32 × ga_M), go106 l2 l3 s = some r → TV_law xs LN Bg106 Cg106 (106, [some (.ref 999), some (.ref 0), some (.int l2), some (.int l3), w0, w1, w2, w3, w4, w5, w6, w7, w8, w9, w10, w11, w12, w13, w14, w15, w16, w17, w18], [], gaSH, s, 0, 0) r) (l2 : Int32) (l3 : Int32) (l4 : Int32) (l5 : Int32) (l6 : Int32) (l10 : Int32) (l11 : Int32) (l12 : Int32) (l13 : Int32) (l14 : Int32) (l15 : Int32) (w0 : Option Value) (w1 : Option Value) (w2 : Option Value) (w3 : Option Value) (w4 : Option Value) (w5 : Option Value) (w6 : Option Value) (w7 : Option Value) (w8 : Option Value) (w9 : Option Value) (s : ga_M) (r : Int32 × ga_M) (h : f_L_law2_j774 xs LN go106 l2 l3 l4 l5 l6 l10 l11 l12 l13 l14 l15 s = some r) : TV_law xs LN (Bg106 + 614) (Cg106 + 3684) (774, [some (.ref 999), some (.ref 0), some (.int l2), some (.int l3), some (.int l4), some (.int l5), some (.int l6), w0, w1, w2, some (.int l10), some (.int l11), some (.int l12), some (.int l13), some (.int l14), some (.int l15), w3, w4, w5, w6, w7, w8, w9], [], gaSH, s, 0, 0) r := (by
    rw [fe_L_law2_j774] at h
    exact gv_T_go (B1 := 13) (C1 := 78) (sp := [(1165, fun L S s => match L with
      | [some (.ref 999), some (.ref 0), some (.int l2), some (.int l3), some (.int l4), some (.int l5), _, _, _, _, some (.int l10), some (.int l11), some (.int l12), some (.int l13), some (.int l14), some (.int l15), _, _, some (.int l18), _, _, _, _] => bif gk_eq S gaSH then f_L_law2_j1165 xs LN go106 l2 l3 l4 l5 l10 l11 l12 l13 l14 l15 l18 s else none
      | _ => none)]) (by have := gv_f5_eq; have := gv_f8_eq; have := gv_f15_eq; omega) (by have := gv_f5_eq; have := gv_f8_eq; have := gv_f15_eq; omega) (List.forall_mem_cons.mpr ⟨fun L S s1 h => (by
      dsimp only at h
      split at h
      · obtain ⟨hS, h2⟩ := gc_bif h
        have eS := gk_eq_eq hS
        subst eS
        exact gv_T_mono (by have := gv_f5_eq; have := gv_f8_eq; have := gv_f15_eq; omega) (by have := gv_f5_eq; have := gv_f8_eq; have := gv_f15_eq; omega) (tv_L_law2_j1165 hgo106 _ _ _ _ _ _ _ _ _ _ _ _ _ _ _ _ _ _ _ _ _ s1 _ h2)
      · cases h), fun _ h => nomatch h⟩) (n := 900) h)
set_option maxHeartbeats 4000000 in
set_option maxRecDepth 100000 in
theorem tv_L_law2_j886 {xs : Nat → Int32} {LN : Nat} {Bg106 Cg106 : Nat} {go106 : Int32 → Int32 → ga_M → Option (Int32 × ga_M)} (hgo106 : ∀ (l2 : Int32) (l3 : Int32) (w0 : Option Value) (w1 : Option Value) (w2 : Option Value) (w3 : Option Value) (w4 : Option Value) (w5 : Option Value) (w6 : Option Value) (w7 : Option Value) (w8 : Option Value) (w9 : Option Value) (w10 : Option Value) (w11 : Option Value) (w12 : Option Value) (w13 : Option Value) (w14 : Option Value) (w15 : Option Value) (w16 : Option Value) (w17 : Option Value) (w18 : Option Value) (s : ga_M) (r : Int32 × ga_M), go106 l2 l3 s = some r → TV_law xs LN Bg106 Cg106 (106, [some (.ref 999), some (.ref 0), some (.int l2), some (.int l3), w0, w1, w2, w3, w4, w5, w6, w7, w8, w9, w10, w11, w12, w13, w14, w15, w16, w17, w18], [], gaSH, s, 0, 0) r) (l2 : Int32) (l3 : Int32) (l4 : Int32) (l5 : Int32) (l8 : Int32) (l10 : Int32) (l11 : Int32) (l12 : Int32) (l13 : Int32) (l14 : Int32) (l15 : Int32) (w0 : Option Value) (w1 : Option Value) (w2 : Option Value) (w3 : Option Value) (w4 : Option Value) (w5 : Option Value) (w6 : Option Value) (w7 : Option Value) (w8 : Option Value) (w9 : Option Value) (s : ga_M) (r : Int32 × ga_M) (h : f_L_law2_j886 xs LN go106 l2 l3 l4 l5 l8 l10 l11 l12 l13 l14 l15 s = some r) : TV_law xs LN (Bg106 + 609) (Cg106 + 3654) (886, [some (.ref 999), some (.ref 0), some (.int l2), some (.int l3), some (.int l4), some (.int l5), w0, w1, some (.int l8), w2, some (.int l10), some (.int l11), some (.int l12), some (.int l13), some (.int l14), some (.int l15), w3, w4, w5, w6, w7, w8, w9], [], gaSH, s, 0, 0) r := (by
    rw [fe_L_law2_j886] at h
    exact gv_T_go (B1 := 8) (C1 := 48) (sp := [(1165, fun L S s => match L with
      | [some (.ref 999), some (.ref 0), some (.int l2), some (.int l3), some (.int l4), some (.int l5), _, _, _, _, some (.int l10), some (.int l11), some (.int l12), some (.int l13), some (.int l14), some (.int l15), _, _, some (.int l18), _, _, _, _] => bif gk_eq S gaSH then f_L_law2_j1165 xs LN go106 l2 l3 l4 l5 l10 l11 l12 l13 l14 l15 l18 s else none
      | _ => none)]) (by have := gv_f5_eq; have := gv_f8_eq; have := gv_f15_eq; omega) (by have := gv_f5_eq; have := gv_f8_eq; have := gv_f15_eq; omega) (List.forall_mem_cons.mpr ⟨fun L S s1 h => (by
      dsimp only at h
      split at h
      · obtain ⟨hS, h2⟩ := gc_bif h
        have eS := gk_eq_eq hS
        subst eS
        exact gv_T_mono (by have := gv_f5_eq; have := gv_f8_eq; have := gv_f15_eq; omega) (by have := gv_f5_eq; have := gv_f8_eq; have := gv_f15_eq; omega) (tv_L_law2_j1165 hgo106 _ _ _ _ _ _ _ _ _ _ _ _ _ _ _ _ _ _ _ _ _ s1 _ h2)
      · cases h), fun _ h => nomatch h⟩) (n := 900) h)
set_option maxHeartbeats 4000000 in
set_option maxRecDepth 100000 in
theorem tv_L_law2_j978 {xs : Nat → Int32} {LN : Nat} {Bg106 Cg106 : Nat} {go106 : Int32 → Int32 → ga_M → Option (Int32 × ga_M)} (hgo106 : ∀ (l2 : Int32) (l3 : Int32) (w0 : Option Value) (w1 : Option Value) (w2 : Option Value) (w3 : Option Value) (w4 : Option Value) (w5 : Option Value) (w6 : Option Value) (w7 : Option Value) (w8 : Option Value) (w9 : Option Value) (w10 : Option Value) (w11 : Option Value) (w12 : Option Value) (w13 : Option Value) (w14 : Option Value) (w15 : Option Value) (w16 : Option Value) (w17 : Option Value) (w18 : Option Value) (s : ga_M) (r : Int32 × ga_M), go106 l2 l3 s = some r → TV_law xs LN Bg106 Cg106 (106, [some (.ref 999), some (.ref 0), some (.int l2), some (.int l3), w0, w1, w2, w3, w4, w5, w6, w7, w8, w9, w10, w11, w12, w13, w14, w15, w16, w17, w18], [], gaSH, s, 0, 0) r) (l2 : Int32) (l3 : Int32) (l4 : Int32) (l5 : Int32) (l9 : Int32) (l10 : Int32) (l11 : Int32) (l12 : Int32) (l13 : Int32) (l14 : Int32) (l15 : Int32) (w0 : Option Value) (w1 : Option Value) (w2 : Option Value) (w3 : Option Value) (w4 : Option Value) (w5 : Option Value) (w6 : Option Value) (w7 : Option Value) (w8 : Option Value) (w9 : Option Value) (s : ga_M) (r : Int32 × ga_M) (h : f_L_law2_j978 xs LN go106 l2 l3 l4 l5 l9 l10 l11 l12 l13 l14 l15 s = some r) : TV_law xs LN (Bg106 + 610) (Cg106 + 3660) (978, [some (.ref 999), some (.ref 0), some (.int l2), some (.int l3), some (.int l4), some (.int l5), w0, w1, w2, some (.int l9), some (.int l10), some (.int l11), some (.int l12), some (.int l13), some (.int l14), some (.int l15), w3, w4, w5, w6, w7, w8, w9], [], gaSH, s, 0, 0) r := (by
    rw [fe_L_law2_j978] at h
    exact gv_T_go (B1 := 9) (C1 := 54) (sp := [(1165, fun L S s => match L with
      | [some (.ref 999), some (.ref 0), some (.int l2), some (.int l3), some (.int l4), some (.int l5), _, _, _, _, some (.int l10), some (.int l11), some (.int l12), some (.int l13), some (.int l14), some (.int l15), _, _, some (.int l18), _, _, _, _] => bif gk_eq S gaSH then f_L_law2_j1165 xs LN go106 l2 l3 l4 l5 l10 l11 l12 l13 l14 l15 l18 s else none
      | _ => none)]) (by have := gv_f5_eq; have := gv_f8_eq; have := gv_f15_eq; omega) (by have := gv_f5_eq; have := gv_f8_eq; have := gv_f15_eq; omega) (List.forall_mem_cons.mpr ⟨fun L S s1 h => (by
      dsimp only at h
      split at h
      · obtain ⟨hS, h2⟩ := gc_bif h
        have eS := gk_eq_eq hS
        subst eS
        exact gv_T_mono (by have := gv_f5_eq; have := gv_f8_eq; have := gv_f15_eq; omega) (by have := gv_f5_eq; have := gv_f8_eq; have := gv_f15_eq; omega) (tv_L_law2_j1165 hgo106 _ _ _ _ _ _ _ _ _ _ _ _ _ _ _ _ _ _ _ _ _ s1 _ h2)
      · cases h), fun _ h => nomatch h⟩) (n := 900) h)
set_option maxHeartbeats 4000000 in
set_option maxRecDepth 100000 in
theorem tv_L_law2_j1063 {xs : Nat → Int32} {LN : Nat} {Bg106 Cg106 : Nat} {go106 : Int32 → Int32 → ga_M → Option (Int32 × ga_M)} (hgo106 : ∀ (l2 : Int32) (l3 : Int32) (w0 : Option Value) (w1 : Option Value) (w2 : Option Value) (w3 : Option Value) (w4 : Option Value) (w5 : Option Value) (w6 : Option Value) (w7 : Option Value) (w8 : Option Value) (w9 : Option Value) (w10 : Option Value) (w11 : Option Value) (w12 : Option Value) (w13 : Option Value) (w14 : Option Value) (w15 : Option Value) (w16 : Option Value) (w17 : Option Value) (w18 : Option Value) (s : ga_M) (r : Int32 × ga_M), go106 l2 l3 s = some r → TV_law xs LN Bg106 Cg106 (106, [some (.ref 999), some (.ref 0), some (.int l2), some (.int l3), w0, w1, w2, w3, w4, w5, w6, w7, w8, w9, w10, w11, w12, w13, w14, w15, w16, w17, w18], [], gaSH, s, 0, 0) r) (l2 : Int32) (l3 : Int32) (l4 : Int32) (l5 : Int32) (l10 : Int32) (l11 : Int32) (l12 : Int32) (l13 : Int32) (l14 : Int32) (l15 : Int32) (w0 : Option Value) (w1 : Option Value) (w2 : Option Value) (w3 : Option Value) (w4 : Option Value) (w5 : Option Value) (w6 : Option Value) (w7 : Option Value) (w8 : Option Value) (w9 : Option Value) (w10 : Option Value) (s : ga_M) (r : Int32 × ga_M) (h : f_L_law2_j1063 xs LN go106 l2 l3 l4 l5 l10 l11 l12 l13 l14 l15 s = some r) : TV_law xs LN (Bg106 + 605) (Cg106 + 3630) (1063, [some (.ref 999), some (.ref 0), some (.int l2), some (.int l3), some (.int l4), some (.int l5), w0, w1, w2, w3, some (.int l10), some (.int l11), some (.int l12), some (.int l13), some (.int l14), some (.int l15), w4, w5, w6, w7, w8, w9, w10], [], gaSH, s, 0, 0) r := (by
    rw [fe_L_law2_j1063] at h
    exact gv_T_go (B1 := 4) (C1 := 24) (sp := [(1165, fun L S s => match L with
      | [some (.ref 999), some (.ref 0), some (.int l2), some (.int l3), some (.int l4), some (.int l5), _, _, _, _, some (.int l10), some (.int l11), some (.int l12), some (.int l13), some (.int l14), some (.int l15), _, _, some (.int l18), _, _, _, _] => bif gk_eq S gaSH then f_L_law2_j1165 xs LN go106 l2 l3 l4 l5 l10 l11 l12 l13 l14 l15 l18 s else none
      | _ => none)]) (by have := gv_f5_eq; have := gv_f8_eq; have := gv_f15_eq; omega) (by have := gv_f5_eq; have := gv_f8_eq; have := gv_f15_eq; omega) (List.forall_mem_cons.mpr ⟨fun L S s1 h => (by
      dsimp only at h
      split at h
      · obtain ⟨hS, h2⟩ := gc_bif h
        have eS := gk_eq_eq hS
        subst eS
        exact gv_T_mono (by have := gv_f5_eq; have := gv_f8_eq; have := gv_f15_eq; omega) (by have := gv_f5_eq; have := gv_f8_eq; have := gv_f15_eq; omega) (tv_L_law2_j1165 hgo106 _ _ _ _ _ _ _ _ _ _ _ _ _ _ _ _ _ _ _ _ _ s1 _ h2)
      · cases h), fun _ h => nomatch h⟩) (n := 900) h)
set_option maxHeartbeats 4000000 in
set_option maxRecDepth 100000 in
theorem tv_L_law2_j1126 {xs : Nat → Int32} {LN : Nat} {Bg106 Cg106 : Nat} {go106 : Int32 → Int32 → ga_M → Option (Int32 × ga_M)} (hgo106 : ∀ (l2 : Int32) (l3 : Int32) (w0 : Option Value) (w1 : Option Value) (w2 : Option Value) (w3 : Option Value) (w4 : Option Value) (w5 : Option Value) (w6 : Option Value) (w7 : Option Value) (w8 : Option Value) (w9 : Option Value) (w10 : Option Value) (w11 : Option Value) (w12 : Option Value) (w13 : Option Value) (w14 : Option Value) (w15 : Option Value) (w16 : Option Value) (w17 : Option Value) (w18 : Option Value) (s : ga_M) (r : Int32 × ga_M), go106 l2 l3 s = some r → TV_law xs LN Bg106 Cg106 (106, [some (.ref 999), some (.ref 0), some (.int l2), some (.int l3), w0, w1, w2, w3, w4, w5, w6, w7, w8, w9, w10, w11, w12, w13, w14, w15, w16, w17, w18], [], gaSH, s, 0, 0) r) (l2 : Int32) (l3 : Int32) (l4 : Int32) (l5 : Int32) (l10 : Int32) (l11 : Int32) (l12 : Int32) (l13 : Int32) (l14 : Int32) (l15 : Int32) (l18 : Int32) (w0 : Option Value) (w1 : Option Value) (w2 : Option Value) (w3 : Option Value) (w4 : Option Value) (w5 : Option Value) (w6 : Option Value) (w7 : Option Value) (w8 : Option Value) (w9 : Option Value) (s : ga_M) (r : Int32 × ga_M) (h : f_L_law2_j1126 xs LN go106 l2 l3 l4 l5 l10 l11 l12 l13 l14 l15 l18 s = some r) : TV_law xs LN (Bg106 + 604) (Cg106 + 3624) (1126, [some (.ref 999), some (.ref 0), some (.int l2), some (.int l3), some (.int l4), some (.int l5), w0, w1, w2, w3, some (.int l10), some (.int l11), some (.int l12), some (.int l13), some (.int l14), some (.int l15), w4, w5, some (.int l18), w6, w7, w8, w9], [], gaSH, s, 0, 0) r := (by
    rw [fe_L_law2_j1126] at h
    exact gv_T_go (B1 := 3) (C1 := 18) (sp := [(1165, fun L S s => match L with
      | [some (.ref 999), some (.ref 0), some (.int l2), some (.int l3), some (.int l4), some (.int l5), _, _, _, _, some (.int l10), some (.int l11), some (.int l12), some (.int l13), some (.int l14), some (.int l15), _, _, some (.int l18), _, _, _, _] => bif gk_eq S gaSH then f_L_law2_j1165 xs LN go106 l2 l3 l4 l5 l10 l11 l12 l13 l14 l15 l18 s else none
      | _ => none)]) (by have := gv_f5_eq; have := gv_f8_eq; have := gv_f15_eq; omega) (by have := gv_f5_eq; have := gv_f8_eq; have := gv_f15_eq; omega) (List.forall_mem_cons.mpr ⟨fun L S s1 h => (by
      dsimp only at h
      split at h
      · obtain ⟨hS, h2⟩ := gc_bif h
        have eS := gk_eq_eq hS
        subst eS
        exact gv_T_mono (by have := gv_f5_eq; have := gv_f8_eq; have := gv_f15_eq; omega) (by have := gv_f5_eq; have := gv_f8_eq; have := gv_f15_eq; omega) (tv_L_law2_j1165 hgo106 _ _ _ _ _ _ _ _ _ _ _ _ _ _ _ _ _ _ _ _ _ s1 _ h2)
      · cases h), fun _ h => nomatch h⟩) (n := 900) h)
set_option maxHeartbeats 4000000 in
set_option maxRecDepth 100000 in
theorem tv_L_law2_j238 {xs : Nat → Int32} {LN : Nat} {Bg106 Cg106 : Nat} {go106 : Int32 → Int32 → ga_M → Option (Int32 × ga_M)} (hgo106 : ∀ (l2 : Int32) (l3 : Int32) (w0 : Option Value) (w1 : Option Value) (w2 : Option Value) (w3 : Option Value) (w4 : Option Value) (w5 : Option Value) (w6 : Option Value) (w7 : Option Value) (w8 : Option Value) (w9 : Option Value) (w10 : Option Value) (w11 : Option Value) (w12 : Option Value) (w13 : Option Value) (w14 : Option Value) (w15 : Option Value) (w16 : Option Value) (w17 : Option Value) (w18 : Option Value) (s : ga_M) (r : Int32 × ga_M), go106 l2 l3 s = some r → TV_law xs LN Bg106 Cg106 (106, [some (.ref 999), some (.ref 0), some (.int l2), some (.int l3), w0, w1, w2, w3, w4, w5, w6, w7, w8, w9, w10, w11, w12, w13, w14, w15, w16, w17, w18], [], gaSH, s, 0, 0) r) (l2 : Int32) (l3 : Int32) (l4 : Int32) (l5 : Int32) (l6 : Int32) (l7 : Int32) (l8 : Int32) (l9 : Int32) (l10 : Int32) (l11 : Int32) (l12 : Int32) (l13 : Int32) (l14 : Int32) (l15 : Int32) (l16 : Int32) (l18 : Int32) (w0 : Option Value) (w1 : Option Value) (w2 : Option Value) (w3 : Option Value) (w4 : Option Value) (s : ga_M) (r : Int32 × ga_M) (h : f_L_law2_j238 xs LN go106 l2 l3 l4 l5 l6 l7 l8 l9 l10 l11 l12 l13 l14 l15 l16 l18 s = some r) : TV_law xs LN (Bg106 + 615) (Cg106 + 3690) (238, [some (.ref 999), some (.ref 0), some (.int l2), some (.int l3), some (.int l4), some (.int l5), some (.int l6), some (.int l7), some (.int l8), some (.int l9), some (.int l10), some (.int l11), some (.int l12), some (.int l13), some (.int l14), some (.int l15), some (.int l16), w0, some (.int l18), w1, w2, w3, w4], [], gaSH, s, 0, 0) r := (by
    rw [fe_L_law2_j238] at h
    exact gv_T_go (B1 := 0) (C1 := 0) (sp := [(316, fun L S s => match L with
      | [some (.ref 999), some (.ref 0), some (.int l2), some (.int l3), some (.int l4), some (.int l5), _, some (.int l7), _, _, some (.int l10), some (.int l11), some (.int l12), some (.int l13), some (.int l14), some (.int l15), _, _, some (.int l18), _, _, _, _] => bif gk_eq S gaSH then f_L_law2_j316 xs LN go106 l2 l3 l4 l5 l7 l10 l11 l12 l13 l14 l15 l18 s else none
      | _ => none), (414, fun L S s => match L with
      | [some (.ref 999), some (.ref 0), some (.int l2), some (.int l3), some (.int l4), some (.int l5), _, some (.int l7), _, _, some (.int l10), some (.int l11), some (.int l12), some (.int l13), some (.int l14), some (.int l15), some (.int l16), _, _, _, _, _, _] => bif gk_eq S gaSH then f_L_law2_j414 xs LN go106 l2 l3 l4 l5 l7 l10 l11 l12 l13 l14 l15 l16 s else none
      | _ => none), (502, fun L S s => match L with
      | [some (.ref 999), some (.ref 0), some (.int l2), some (.int l3), some (.int l4), some (.int l5), _, some (.int l7), _, _, some (.int l10), some (.int l11), some (.int l12), some (.int l13), some (.int l14), some (.int l15), _, _, _, _, _, _, _] => bif gk_eq S gaSH then f_L_law2_j502 xs LN go106 l2 l3 l4 l5 l7 l10 l11 l12 l13 l14 l15 s else none
      | _ => none), (596, fun L S s => match L with
      | [some (.ref 999), some (.ref 0), some (.int l2), some (.int l3), some (.int l4), some (.int l5), _, _, _, _, some (.int l10), some (.int l11), some (.int l12), some (.int l13), some (.int l14), some (.int l15), _, _, _, _, _, _, _] => bif gk_eq S gaSH then f_L_law2_j596 xs LN go106 l2 l3 l4 l5 l10 l11 l12 l13 l14 l15 s else none
      | _ => none), (752, fun L S s => match L with
      | [some (.ref 999), some (.ref 0), some (.int l2), some (.int l3), some (.int l4), some (.int l5), _, _, _, _, some (.int l10), some (.int l11), some (.int l12), some (.int l13), some (.int l14), some (.int l15), _, _, some (.int l18), _, _, _, _] => bif gk_eq S gaSH then f_L_law2_j752 xs LN go106 l2 l3 l4 l5 l10 l11 l12 l13 l14 l15 l18 s else none
      | _ => none), (774, fun L S s => match L with
      | [some (.ref 999), some (.ref 0), some (.int l2), some (.int l3), some (.int l4), some (.int l5), some (.int l6), _, _, _, some (.int l10), some (.int l11), some (.int l12), some (.int l13), some (.int l14), some (.int l15), _, _, _, _, _, _, _] => bif gk_eq S gaSH then f_L_law2_j774 xs LN go106 l2 l3 l4 l5 l6 l10 l11 l12 l13 l14 l15 s else none
      | _ => none), (886, fun L S s => match L with
      | [some (.ref 999), some (.ref 0), some (.int l2), some (.int l3), some (.int l4), some (.int l5), _, _, some (.int l8), _, some (.int l10), some (.int l11), some (.int l12), some (.int l13), some (.int l14), some (.int l15), _, _, _, _, _, _, _] => bif gk_eq S gaSH then f_L_law2_j886 xs LN go106 l2 l3 l4 l5 l8 l10 l11 l12 l13 l14 l15 s else none
      | _ => none), (978, fun L S s => match L with
      | [some (.ref 999), some (.ref 0), some (.int l2), some (.int l3), some (.int l4), some (.int l5), _, _, _, some (.int l9), some (.int l10), some (.int l11), some (.int l12), some (.int l13), some (.int l14), some (.int l15), _, _, _, _, _, _, _] => bif gk_eq S gaSH then f_L_law2_j978 xs LN go106 l2 l3 l4 l5 l9 l10 l11 l12 l13 l14 l15 s else none
      | _ => none), (1063, fun L S s => match L with
      | [some (.ref 999), some (.ref 0), some (.int l2), some (.int l3), some (.int l4), some (.int l5), _, _, _, _, some (.int l10), some (.int l11), some (.int l12), some (.int l13), some (.int l14), some (.int l15), _, _, _, _, _, _, _] => bif gk_eq S gaSH then f_L_law2_j1063 xs LN go106 l2 l3 l4 l5 l10 l11 l12 l13 l14 l15 s else none
      | _ => none), (1126, fun L S s => match L with
      | [some (.ref 999), some (.ref 0), some (.int l2), some (.int l3), some (.int l4), some (.int l5), _, _, _, _, some (.int l10), some (.int l11), some (.int l12), some (.int l13), some (.int l14), some (.int l15), _, _, some (.int l18), _, _, _, _] => bif gk_eq S gaSH then f_L_law2_j1126 xs LN go106 l2 l3 l4 l5 l10 l11 l12 l13 l14 l15 l18 s else none
      | _ => none)]) (by have := gv_f5_eq; have := gv_f8_eq; have := gv_f15_eq; omega) (by have := gv_f5_eq; have := gv_f8_eq; have := gv_f15_eq; omega) (List.forall_mem_cons.mpr ⟨fun L S s1 h => (by
      dsimp only at h
      split at h
      · obtain ⟨hS, h2⟩ := gc_bif h
        have eS := gk_eq_eq hS
        subst eS
        exact gv_T_mono (by have := gv_f5_eq; have := gv_f8_eq; have := gv_f15_eq; omega) (by have := gv_f5_eq; have := gv_f8_eq; have := gv_f15_eq; omega) (tv_L_law2_j316 hgo106 _ _ _ _ _ _ _ _ _ _ _ _ _ _ _ _ _ _ _ _ _ s1 _ h2)
      · cases h), List.forall_mem_cons.mpr ⟨fun L S s1 h => (by
      dsimp only at h
      split at h
      · obtain ⟨hS, h2⟩ := gc_bif h
        have eS := gk_eq_eq hS
        subst eS
        exact gv_T_mono (by have := gv_f5_eq; have := gv_f8_eq; have := gv_f15_eq; omega) (by have := gv_f5_eq; have := gv_f8_eq; have := gv_f15_eq; omega) (tv_L_law2_j414 hgo106 _ _ _ _ _ _ _ _ _ _ _ _ _ _ _ _ _ _ _ _ _ s1 _ h2)
      · cases h), List.forall_mem_cons.mpr ⟨fun L S s1 h => (by
      dsimp only at h
      split at h
      · obtain ⟨hS, h2⟩ := gc_bif h
        have eS := gk_eq_eq hS
        subst eS
        exact gv_T_mono (by have := gv_f5_eq; have := gv_f8_eq; have := gv_f15_eq; omega) (by have := gv_f5_eq; have := gv_f8_eq; have := gv_f15_eq; omega) (tv_L_law2_j502 hgo106 _ _ _ _ _ _ _ _ _ _ _ _ _ _ _ _ _ _ _ _ _ s1 _ h2)
      · cases h), List.forall_mem_cons.mpr ⟨fun L S s1 h => (by
      dsimp only at h
      split at h
      · obtain ⟨hS, h2⟩ := gc_bif h
        have eS := gk_eq_eq hS
        subst eS
        exact gv_T_mono (by have := gv_f5_eq; have := gv_f8_eq; have := gv_f15_eq; omega) (by have := gv_f5_eq; have := gv_f8_eq; have := gv_f15_eq; omega) (tv_L_law2_j596 hgo106 _ _ _ _ _ _ _ _ _ _ _ _ _ _ _ _ _ _ _ _ _ s1 _ h2)
      · cases h), List.forall_mem_cons.mpr ⟨fun L S s1 h => (by
      dsimp only at h
      split at h
      · obtain ⟨hS, h2⟩ := gc_bif h
        have eS := gk_eq_eq hS
        subst eS
        exact gv_T_mono (by have := gv_f5_eq; have := gv_f8_eq; have := gv_f15_eq; omega) (by have := gv_f5_eq; have := gv_f8_eq; have := gv_f15_eq; omega) (tv_L_law2_j752 hgo106 _ _ _ _ _ _ _ _ _ _ _ _ _ _ _ _ _ _ _ _ _ s1 _ h2)
      · cases h), List.forall_mem_cons.mpr ⟨fun L S s1 h => (by
      dsimp only at h
      split at h
      · obtain ⟨hS, h2⟩ := gc_bif h
        have eS := gk_eq_eq hS
        subst eS
        exact gv_T_mono (by have := gv_f5_eq; have := gv_f8_eq; have := gv_f15_eq; omega) (by have := gv_f5_eq; have := gv_f8_eq; have := gv_f15_eq; omega) (tv_L_law2_j774 hgo106 _ _ _ _ _ _ _ _ _ _ _ _ _ _ _ _ _ _ _ _ _ s1 _ h2)
      · cases h), List.forall_mem_cons.mpr ⟨fun L S s1 h => (by
      dsimp only at h
      split at h
      · obtain ⟨hS, h2⟩ := gc_bif h
        have eS := gk_eq_eq hS
        subst eS
        exact gv_T_mono (by have := gv_f5_eq; have := gv_f8_eq; have := gv_f15_eq; omega) (by have := gv_f5_eq; have := gv_f8_eq; have := gv_f15_eq; omega) (tv_L_law2_j886 hgo106 _ _ _ _ _ _ _ _ _ _ _ _ _ _ _ _ _ _ _ _ _ s1 _ h2)
      · cases h), List.forall_mem_cons.mpr ⟨fun L S s1 h => (by
      dsimp only at h
      split at h
      · obtain ⟨hS, h2⟩ := gc_bif h
        have eS := gk_eq_eq hS
        subst eS
        exact gv_T_mono (by have := gv_f5_eq; have := gv_f8_eq; have := gv_f15_eq; omega) (by have := gv_f5_eq; have := gv_f8_eq; have := gv_f15_eq; omega) (tv_L_law2_j978 hgo106 _ _ _ _ _ _ _ _ _ _ _ _ _ _ _ _ _ _ _ _ _ s1 _ h2)
      · cases h), List.forall_mem_cons.mpr ⟨fun L S s1 h => (by
      dsimp only at h
      split at h
      · obtain ⟨hS, h2⟩ := gc_bif h
        have eS := gk_eq_eq hS
        subst eS
        exact gv_T_mono (by have := gv_f5_eq; have := gv_f8_eq; have := gv_f15_eq; omega) (by have := gv_f5_eq; have := gv_f8_eq; have := gv_f15_eq; omega) (tv_L_law2_j1063 hgo106 _ _ _ _ _ _ _ _ _ _ _ _ _ _ _ _ _ _ _ _ _ s1 _ h2)
      · cases h), List.forall_mem_cons.mpr ⟨fun L S s1 h => (by
      dsimp only at h
      split at h
      · obtain ⟨hS, h2⟩ := gc_bif h
        have eS := gk_eq_eq hS
        subst eS
        exact gv_T_mono (by have := gv_f5_eq; have := gv_f8_eq; have := gv_f15_eq; omega) (by have := gv_f5_eq; have := gv_f8_eq; have := gv_f15_eq; omega) (tv_L_law2_j1126 hgo106 _ _ _ _ _ _ _ _ _ _ _ _ _ _ _ _ _ _ _ _ _ s1 _ h2)
      · cases h), fun _ h => nomatch h⟩⟩⟩⟩⟩⟩⟩⟩⟩⟩) (n := 900) h)
set_option maxHeartbeats 4000000 in
set_option maxRecDepth 100000 in
theorem tv_L_law2_h106 {xs : Nat → Int32} {LN : Nat} : ∀ (n : Nat) (l2 : Int32) (l3 : Int32) (w0 : Option Value) (w1 : Option Value) (w2 : Option Value) (w3 : Option Value) (w4 : Option Value) (w5 : Option Value) (w6 : Option Value) (w7 : Option Value) (w8 : Option Value) (w9 : Option Value) (w10 : Option Value) (w11 : Option Value) (w12 : Option Value) (w13 : Option Value) (w14 : Option Value) (w15 : Option Value) (w16 : Option Value) (w17 : Option Value) (w18 : Option Value) (s : ga_M) (r : Int32 × ga_M), f_L_law2_h106 xs LN n l2 l3 s = some r → TV_law xs LN (n * 625 + 0) (n * 3750 + 0) (106, [some (.ref 999), some (.ref 0), some (.int l2), some (.int l3), w0, w1, w2, w3, w4, w5, w6, w7, w8, w9, w10, w11, w12, w13, w14, w15, w16, w17, w18], [], gaSH, s, 0, 0) r := by
  intro n
  induction n with
  | zero => intro l2 l3 w0 w1 w2 w3 w4 w5 w6 w7 w8 w9 w10 w11 w12 w13 w14 w15 w16 w17 w18 s r h; cases h
  | succ n ih => intro l2 l3 w0 w1 w2 w3 w4 w5 w6 w7 w8 w9 w10 w11 w12 w13 w14 w15 w16 w17 w18 s r h; exact gv_T_go (B1 := 10) (C1 := 60) (sp := [(238, fun L S s => match L with
      | [some (.ref 999), some (.ref 0), some (.int l2), some (.int l3), some (.int l4), some (.int l5), some (.int l6), some (.int l7), some (.int l8), some (.int l9), some (.int l10), some (.int l11), some (.int l12), some (.int l13), some (.int l14), some (.int l15), some (.int l16), _, some (.int l18), _, _, _, _] => bif gk_eq S gaSH then f_L_law2_j238 xs LN (f_L_law2_h106 xs LN n) l2 l3 l4 l5 l6 l7 l8 l9 l10 l11 l12 l13 l14 l15 l16 l18 s else none
      | _ => none)]) (by have := gv_f5_eq; have := gv_f8_eq; have := gv_f15_eq; omega) (by have := gv_f5_eq; have := gv_f8_eq; have := gv_f15_eq; omega) (List.forall_mem_cons.mpr ⟨fun L S s1 h => (by
      dsimp only at h
      split at h
      · obtain ⟨hS, h2⟩ := gc_bif h
        have eS := gk_eq_eq hS
        subst eS
        exact gv_T_mono (by have := gv_f5_eq; have := gv_f8_eq; have := gv_f15_eq; omega) (by have := gv_f5_eq; have := gv_f8_eq; have := gv_f15_eq; omega) (tv_L_law2_j238 ih _ _ _ _ _ _ _ _ _ _ _ _ _ _ _ _ _ _ _ _ _ s1 _ h2)
      · cases h), fun _ h => nomatch h⟩) (n := 900) h
set_option maxRecDepth 100000 in
theorem tv_law14 {xs : Nat → Int32} {LN : Nat} (w0 w1 w2 w3 w4 w5 w6 w7 w8 w9 w10 w11 w12 w13 w14 w15 w16 w17 w18 w19 w20 : Option Value) (s : ga_M) (r : Int32 × ga_M) (h : f_L_law2 xs LN s = some r) : TV_law xs LN 9386 56316 (14, [some (.ref 999), some (.ref 0), w0, w1, w2, w3, w4, w5, w6, w7, w8, w9, w10, w11, w12, w13, w14, w15, w16, w17, w18, w19, w20], [], gaSH, s, 0, 0) r := by
  rw [fe_L_law2] at h
  exact gv_T_go (B1 := 11) (C1 := 66) (sp := [(106, fun L S s => match L with
      | [some (.ref 999), some (.ref 0), some (.int l2), some (.int l3), _, _, _, _, _, _, _, _, _, _, _, _, _, _, _, _, _, _, _] => bif gk_eq S gaSH then f_L_law2_h106 xs LN gv_f15 l2 l3 s else none
      | _ => none)]) (by have := gv_f5_eq; have := gv_f8_eq; have := gv_f15_eq; omega) (by have := gv_f5_eq; have := gv_f8_eq; have := gv_f15_eq; omega) (List.forall_mem_cons.mpr ⟨fun L S s1 h => (by
      dsimp only at h
      split at h
      · obtain ⟨hS, h2⟩ := gc_bif h
        have eS := gk_eq_eq hS
        subst eS
        exact gv_T_mono (by have := gv_f5_eq; have := gv_f8_eq; have := gv_f15_eq; omega) (by have := gv_f5_eq; have := gv_f8_eq; have := gv_f15_eq; omega) (tv_L_law2_h106 gv_f15 _ _ _ _ _ _ _ _ _ _ _ _ _ _ _ _ _ _ _ _ _ s1 _ h2)
      · cases h), fun _ h => nomatch h⟩) (n := 900) h
set_option maxRecDepth 100000 in
theorem tv_law8 {xs : Nat → Int32} {LN : Nat} (w0 w1 w2 w3 w4 w5 w6 w7 w8 w9 w10 w11 w12 w13 w14 w15 w16 w17 w18 w19 w20 : Option Value) (s : ga_M) (r : Int32 × ga_M) (h : f_L_law1 xs LN s = some r) : TV_law xs LN 9651 57894 (8, [some (.ref 999), some (.ref 0), w0, w1, w2, w3, w4, w5, w6, w7, w8, w9, w10, w11, w12, w13, w14, w15, w16, w17, w18, w19, w20], [], gkB_X11_init_0, s, 0, 0) r := by
  unfold f_L_law1 at h
  exact gv_T_go (B1 := 265) (C1 := 1578) (sp := [(14, fun L S s => match L with
      | [some (.ref 999), some (.ref 0), _, _, _, _, _, _, _, _, _, _, _, _, _, _, _, _, _, _, _, _, _] => bif gk_eq S gaSH then f_L_law2 xs LN s else none
      | _ => none)]) (by have := gv_f5_eq; have := gv_f8_eq; have := gv_f15_eq; omega) (by have := gv_f5_eq; have := gv_f8_eq; have := gv_f15_eq; omega) (List.forall_mem_cons.mpr ⟨fun L S s1 h => (by
      dsimp only at h
      split at h
      · obtain ⟨hS, h2⟩ := gc_bif h
        have eS := gk_eq_eq hS
        subst eS
        exact gv_T_mono (by have := gv_f5_eq; have := gv_f8_eq; have := gv_f15_eq; omega) (by have := gv_f5_eq; have := gv_f8_eq; have := gv_f15_eq; omega) (tv_law14 _ _ _ _ _ _ _ _ _ _ _ _ _ _ _ _ _ _ _ _ _ s1 _ h2)
      · cases h), fun _ h => nomatch h⟩) (n := 900) h
set_option maxRecDepth 100000 in
theorem tv_law0 {xs : Nat → Int32} {LN : Nat} (s : ga_M) (r : Int32 × ga_M) (h : f_L_law xs LN s = some r) : TV_law xs LN 9723 118008 (0, [some (.ref 999), none, none, none, none, none, none, none, none, none, none, none, none, none, none, none, none, none, none, none, none, none, none], [], [], s, 0, 0) r := by
  unfold f_L_law at h
  exact gv_T_go (B1 := 72) (C1 := 60114) (sp := [(8, fun L S s => match L with
      | [some (.ref 999), some (.ref 0), _, _, _, _, _, _, _, _, _, _, _, _, _, _, _, _, _, _, _, _, _] => bif gk_eq S gkB_X11_init_0 then f_L_law1 xs LN s else none
      | _ => none)]) (by have := gv_f5_eq; have := gv_f8_eq; have := gv_f15_eq; omega) (by have := gv_f5_eq; have := gv_f8_eq; have := gv_f15_eq; omega) (List.forall_mem_cons.mpr ⟨fun L S s1 h => (by
      dsimp only at h
      split at h
      · obtain ⟨hS, h2⟩ := gc_bif h
        have eS := gk_eq_eq hS
        subst eS
        exact gv_T_mono (by have := gv_f5_eq; have := gv_f8_eq; have := gv_f15_eq; omega) (by have := gv_f5_eq; have := gv_f8_eq; have := gv_f15_eq; omega) (tv_law8 _ _ _ _ _ _ _ _ _ _ _ _ _ _ _ _ _ _ _ _ _ s1 _ h2)
      · cases h), fun _ h => nomatch h⟩) (n := 900) h
end
