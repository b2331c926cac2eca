noncomputable section
/-! ===== the constructors: what they make, by the shapes at which they are called ===== -/
def ck_X6_init {α : Type} (as : List Value) (S : ga_S) (s : ga_M) (K : ga_O → Option α) : Option α := match as with
  | [.ref r, .int n] => (match S[r]? with
    | some (.inl (6, [some none])) => bif decide (0 < n) && (Nat.ble n.toNatClampNeg 2000 && Nat.blt S.length 84) then K (.inl none, (S ++ [(Sum.inr (0, n.toNatClampNeg) : ga_Sh)]).set r (.inl (6, [some (some S.length)])), ga_z s S.length) else none
    | _ => none)
  | _ => none
def ck_X7_init {α : Type} (as : List Value) (S : ga_S) (s : ga_M) (K : ga_O → Option α) : Option α := match as with
  | [.ref r0] => bif Nat.beq r0 1 && (gk_eq S gkA_X7_init_1) then K (.inl none, gkB_X7_init_1, zk_X7_init_1 s) else bif Nat.beq r0 49 && (gk_eq S gkA_X7_init_49) then K (.inl none, gkB_X7_init_49, zk_X7_init_49 s) else none
  | _ => none
def ck_X3_init {α : Type} (as : List Value) (S : ga_S) (s : ga_M) (K : ga_O → Option α) : Option α := match as with
  | [.ref r0, .ref r1] => bif Nat.beq r0 20 && (Nat.beq r1 1 && (gk_eq S gkA_X3_init_20)) then K (.inl none, gkB_X3_init_20, zk_X3_init_20 s) else none
  | _ => none
def ck_X4_init {α : Type} (as : List Value) (S : ga_S) (s : ga_M) (K : ga_O → Option α) : Option α := match as with
  | [.ref r0, .ref r1, .ref r2] => bif Nat.beq r0 31 && (Nat.beq r1 1 && (Nat.beq r2 20 && (gk_eq S gkA_X4_init_31))) then K (.inl none, gkB_X4_init_31, zk_X4_init_31 s) else none
  | _ => none
def ck_X0_init {α : Type} (as : List Value) (S : ga_S) (s : ga_M) (K : ga_O → Option α) : Option α := match as with
  | [.ref r0, .ref r1, .ref r2] => bif Nat.beq r0 32 && (Nat.beq r1 1 && (Nat.beq r2 20 && (gk_eq S gkA_X0_init_32))) then K (.inl none, gkB_X0_init_32, zk_X0_init_32 s) else none
  | _ => none
def ck_X2_init {α : Type} (as : List Value) (S : ga_S) (s : ga_M) (K : ga_O → Option α) : Option α := match as with
  | [.ref r0, .ref r1, .ref r2, .ref r3, .ref r4] => bif Nat.beq r0 41 && (Nat.beq r1 1 && (Nat.beq r2 20 && (Nat.beq r3 31 && (Nat.beq r4 32 && (gk_eq S gkA_X2_init_41))))) then K (.inl none, gkB_X2_init_41, zk_X2_init_41 s) else none
  | _ => none
def ck_X1_init {α : Type} (as : List Value) (S : ga_S) (s : ga_M) (K : ga_O → Option α) : Option α := match as with
  | [.ref r0, .ref r1] => bif Nat.beq r0 42 && (Nat.beq r1 20 && (gk_eq S gkA_X1_init_42)) then K (.inl none, gkB_X1_init_42, zk_X1_init_42 s) else none
  | _ => none
def ck_X10_init {α : Type} (as : List Value) (S : ga_S) (s : ga_M) (K : ga_O → Option α) : Option α := match as with
  | [.ref r0] => bif Nat.beq r0 45 && (gk_eq S gkA_X10_init_45) then K (.inl none, gkB_X10_init_45, zk_X10_init_45 s) else none
  | _ => none
def ck_X8_init {α : Type} (as : List Value) (S : ga_S) (s : ga_M) (K : ga_O → Option α) : Option α := match as with
  | [.ref r0, .ref r1] => bif Nat.beq r0 48 && (Nat.beq r1 45 && (gk_eq S gkA_X8_init_48)) then K (.inl none, gkB_X8_init_48, zk_X8_init_48 s) else none
  | _ => none
def ck_X9_init {α : Type} (as : List Value) (S : ga_S) (s : ga_M) (K : ga_O → Option α) : Option α := match as with
  | [.ref r0, .ref r1] => bif Nat.beq r0 68 && (Nat.beq r1 45 && (gk_eq S gkA_X9_init_68)) then K (.inl none, gkB_X9_init_68, zk_X9_init_68 s) else none
  | _ => none
def ck_X5_init {α : Type} (as : List Value) (S : ga_S) (s : ga_M) (K : ga_O → Option α) : Option α := match as with
  | [.ref r0, .ref r1, .ref r2] => bif Nat.beq r0 69 && (Nat.beq r1 1 && (Nat.beq r2 20 && (gk_eq S gkA_X5_init_69))) then K (.inl none, gkB_X5_init_69, zk_X5_init_69 s) else none
  | _ => none
def ck_X11_init {α : Type} (as : List Value) (S : ga_S) (s : ga_M) (K : ga_O → Option α) : Option α := match as with
  | [.ref r0] => bif Nat.beq r0 0 && (gk_eq S gkA_X11_init_0) then (zk_X11_init_0 s).bind fun q => K (.inl none, q.1, q.2) else none
  | _ => none
def ck_X7_becomeSample {α : Type} (as : List Value) (S : ga_S) (s : ga_M) (K : ga_O → Option α) : Option α := match as with
  | [.ref r0] => bif Nat.beq r0 1 && gk_eq S gaS1 then K (.inl none, S, v_X7_becomeSample s) else none
  | _ => none
def ck_X3_begin {α : Type} (as : List Value) (S : ga_S) (s : ga_M) (K : ga_O → Option α) : Option α := match as with
  | [.ref r0] => bif Nat.beq r0 20 && gk_eq S gaS2 then (f_X3_begin s).bind fun s1 => K (.inl none, S, s1) else none
  | _ => none
def gaK : ga_G := fun α mid as S s K => bif Nat.beq mid 47 then ck_X3_begin as S s K else (bif Nat.beq mid 112 then ck_X7_becomeSample as S s K else (bif Nat.beq mid 445 then ck_X0_init as S s K else (bif Nat.beq mid 446 then ck_X1_init as S s K else (bif Nat.beq mid 447 then ck_X2_init as S s K else (bif Nat.beq mid 448 then ck_X3_init as S s K else (bif Nat.beq mid 449 then ck_X4_init as S s K else (bif Nat.beq mid 450 then ck_X5_init as S s K else (bif Nat.beq mid 451 then ck_X6_init as S s K else (bif Nat.beq mid 452 then ck_X7_init as S s K else (bif Nat.beq mid 453 then ck_X8_init as S s K else (bif Nat.beq mid 454 then ck_X9_init as S s K else (bif Nat.beq mid 455 then ck_X10_init as S s K else (bif Nat.beq mid 456 then ck_X11_init as S s K else (none))))))))))))))
def gaCostKL : List (Nat × Nat) := [(8, 8004), (2, 2001), (0, 0), (10, 10005), (0, 0), (2, 2001), (1, 2000), (18, 18009), (19, 18025), (0, 0), (2, 2001), (71, 60104)]
def gaCostK : Nat → Nat × Nat := fun mid => bif Nat.blt mid 445 then gaCost mid else gaCostKL.getD (mid - 445) (0, 0)
theorem gek_X6_init (as : List Value) (S : ga_S) (s : ga_M) : ge_N (fun _ => True) (fun α K => ck_X6_init as S s K) := by
  unfold ck_X6_init
  repeat' split
  all_goals first | exact ge_none | exact ge_cond (ge_K trivial) ge_none
theorem gek_X7_init (as : List Value) (S : ga_S) (s : ga_M) : ge_N (fun _ => True) (fun α K => ck_X7_init as S s K) := by
  unfold ck_X7_init
  split
  · exact ge_cond (ge_K trivial) (ge_cond (ge_K trivial) (ge_none))
  · exact ge_none
theorem gek_X3_init (as : List Value) (S : ga_S) (s : ga_M) : ge_N (fun _ => True) (fun α K => ck_X3_init as S s K) := by
  unfold ck_X3_init
  split
  · exact ge_cond (ge_K trivial) (ge_none)
  · exact ge_none
theorem gek_X4_init (as : List Value) (S : ga_S) (s : ga_M) : ge_N (fun _ => True) (fun α K => ck_X4_init as S s K) := by
  unfold ck_X4_init
  split
  · exact ge_cond (ge_K trivial) (ge_none)
  · exact ge_none
theorem gek_X0_init (as : List Value) (S : ga_S) (s : ga_M) : ge_N (fun _ => True) (fun α K => ck_X0_init as S s K) := by
  unfold ck_X0_init
  split
  · exact ge_cond (ge_K trivial) (ge_none)
  · exact ge_none
theorem gek_X2_init (as : List Value) (S : ga_S) (s : ga_M) : ge_N (fun _ => True) (fun α K => ck_X2_init as S s K) := by
  unfold ck_X2_init
  split
  · exact ge_cond (ge_K trivial) (ge_none)
  · exact ge_none
theorem gek_X1_init (as : List Value) (S : ga_S) (s : ga_M) : ge_N (fun _ => True) (fun α K => ck_X1_init as S s K) := by
  unfold ck_X1_init
  split
  · exact ge_cond (ge_K trivial) (ge_none)
  · exact ge_none
theorem gek_X10_init (as : List Value) (S : ga_S) (s : ga_M) : ge_N (fun _ => True) (fun α K => ck_X10_init as S s K) := by
  unfold ck_X10_init
  split
  · exact ge_cond (ge_K trivial) (ge_none)
  · exact ge_none
theorem gek_X8_init (as : List Value) (S : ga_S) (s : ga_M) : ge_N (fun _ => True) (fun α K => ck_X8_init as S s K) := by
  unfold ck_X8_init
  split
  · exact ge_cond (ge_K trivial) (ge_none)
  · exact ge_none
theorem gek_X9_init (as : List Value) (S : ga_S) (s : ga_M) : ge_N (fun _ => True) (fun α K => ck_X9_init as S s K) := by
  unfold ck_X9_init
  split
  · exact ge_cond (ge_K trivial) (ge_none)
  · exact ge_none
theorem gek_X5_init (as : List Value) (S : ga_S) (s : ga_M) : ge_N (fun _ => True) (fun α K => ck_X5_init as S s K) := by
  unfold ck_X5_init
  split
  · exact ge_cond (ge_K trivial) (ge_none)
  · exact ge_none
theorem gek_X11_init (as : List Value) (S : ga_S) (s : ga_M) : ge_N (fun _ => True) (fun α K => ck_X11_init as S s K) := by
  unfold ck_X11_init
  split
  · exact ge_cond (ge_bind (fun _ => ge_K trivial)) (ge_none)
  · exact ge_none
theorem gek_X7_becomeSample (as : List Value) (S : ga_S) (s : ga_M) : ge_N (fun _ => True) (fun α K => ck_X7_becomeSample as S s K) := by
  unfold ck_X7_becomeSample
  split
  · exact ge_cond (ge_K trivial) ge_none
  · exact ge_none
theorem gek_X3_begin (as : List Value) (S : ga_S) (s : ga_M) : ge_N (fun _ => True) (fun α K => ck_X3_begin as S s K) := by
  unfold ck_X3_begin
  split
  · exact ge_cond (ge_bind (fun _ => ge_K trivial)) ge_none
  · exact ge_none
theorem ge_Kt (mid : Nat) (as : List Value) (S : ga_S) (s : ga_M) : ge_N (fun _ => True) (fun α K => gaK α mid as S s K) := ge_cond (gek_X3_begin as S s) (ge_cond (gek_X7_becomeSample as S s) (ge_cond (gek_X0_init as S s) (ge_cond (gek_X1_init as S s) (ge_cond (gek_X2_init as S s) (ge_cond (gek_X3_init as S s) (ge_cond (gek_X4_init as S s) (ge_cond (gek_X5_init as S s) (ge_cond (gek_X6_init as S s) (ge_cond (gek_X7_init as S s) (ge_cond (gek_X8_init as S s) (ge_cond (gek_X9_init as S s) (ge_cond (gek_X10_init as S s) (ge_cond (gek_X11_init as S s) (ge_none))))))))))))))
theorem ge_Kg : ∀ (α : Type) mid as S σ (k : ga_O → Option α) o, gaK α mid as S σ k = some o → ∃ o1, gaK ga_O mid as S σ some = some o1 ∧ k o1 = some o := fun α mid as S σ k o h => (ge_Kt mid as S σ α k o h).elim fun o1 h1 => ⟨o1, h1.2⟩
theorem tk_X6_init {S : ga_S} {r : Nat} {n : Int32} (h1 : S[r]? = some (.inl (6, [some none]))) (hn : 0 < n) (hn2 : n.toNatClampNeg ≤ 2000) (hS : S.length < 84) (σ : ga_M) : ga_T RX6 cX6_init (ga_lk cl_X6_init) gaK gaCostK (fun _ => []) gaCls 84 1 2000 true true true none (fun _ _ => True) gk_kS (0, [some (.ref r), some (.int n)], [], S, σ, 0, 0) ((S ++ [(Sum.inr (0, n.toNatClampNeg) : ga_Sh)]).set r (.inl (6, [some (some S.length)])), ga_z σ S.length) := by
  have hr := (List.getElem?_eq_some_iff.mp h1).1
  refine gx_one (cfg' := (1, [some (.ref r), some (.int n)], [.ref r], S, σ, 0, 0)) (fun k => rfl) ?_
  refine gx_one (cfg' := (4, [some (.ref r), some (.int n)], [], S, σ, 0, 0)) (fun k => rfl) ?_
  refine gx_one (cfg' := (5, [some (.ref r), some (.int n)], [.ref r], S, σ, 0, 0)) (fun k => rfl) ?_
  refine gx_one (cfg' := (6, [some (.ref r), some (.int n)], [.int n, .ref r], S, σ, 0, 0)) (fun k => rfl) ?_
  refine gx_one (cfg' := (9, [some (.ref r), some (.int n)], [.ref r], S, σ, 0, 0)) (fun k => if_neg (Int32.not_le.mpr hn)) ?_
  refine gx_one (cfg' := (10, [some (.ref r), some (.int n)], [.int n, .ref r], S, σ, 0, 0)) (fun k => rfl) ?_
  refine gx_one (cfg' := (14, [some (.ref r), some (.int n)], [.int n, .ref r], S, σ, 0, 0)) (fun k => rfl) ?_
  refine gx_one (cfg' := (16, [some (.ref r), some (.int n)], [.ref S.length, .ref r], S ++ [(Sum.inr (0, n.toNatClampNeg) : ga_Sh)], ga_z σ S.length, 0 + 1, 0 + n.toNatClampNeg)) (fun k => ?_) ?_
  · refine (if_neg (show ¬ n < 0 from fun h => Int32.lt_irrefl (Int32.lt_trans h hn))).trans ?_
    exact if_pos ⟨hS, by omega, by omega, by omega⟩
  refine gx_one (cfg' := (19, [some (.ref r), some (.int n)], [], (S ++ [(Sum.inr (0, n.toNatClampNeg) : ga_Sh)]).set r (.inl (6, [some (some S.length)])), ga_z σ S.length, 0 + 1, 0 + n.toNatClampNeg)) (fun k => ?_) ?_
  · show ga_pfd true true (S ++ [(Sum.inr (0, n.toNatClampNeg) : ga_Sh)]) (ga_z σ S.length) r 6 0 (.ref S.length) (fun S2 σ2 => k (19, [some (.ref r), some (.int n)], [], S2, σ2, 0 + 1, 0 + n.toNatClampNeg)) = _
    unfold ga_pfd
    rw [List.getElem?_append_left hr, h1]
    simp
  exact gx_end (fun k => rfl)
set_option maxRecDepth 100000 in
theorem tk_X7_init_1 (σ : ga_M) : ga_T RX7 cX7_init (ga_lk cl_X7_init) gaK gaCostK (fun _ => []) gaCls 84 18 18009 true true true none (fun _ _ => True) gk_kS (0, [some (.ref 1)], [], gkA_X7_init_1, σ, 0, 0) (gkB_X7_init_1, zk_X7_init_1 σ) := by
  rw [ze_X7_init_1]
  exact ga_T_go (sp := ga_sp []) (ga_sp_T (fun _ h => nomatch h)) (n := 600) rfl
set_option maxRecDepth 100000 in
theorem tk_X3_init_20 (σ : ga_M) : ga_T RX3 cX3_init (ga_lk cl_X3_init) gaK gaCostK (fun _ => []) gaCls 84 10 10005 true true true none (fun _ _ => True) gk_kS (0, [some (.ref 20), some (.ref 1)], [], gkA_X3_init_20, σ, 0, 0) (gkB_X3_init_20, zk_X3_init_20 σ) := by
  rw [ze_X3_init_20]
  exact ga_T_go (sp := ga_sp []) (ga_sp_T (fun _ h => nomatch h)) (n := 600) rfl
set_option maxRecDepth 100000 in
theorem tk_X4_init_31 (σ : ga_M) : ga_T RX4 cX4_init (ga_lk cl_X4_init) gaK gaCostK (fun _ => []) gaCls 84 0 0 true true true none (fun _ _ => True) gk_kS (0, [some (.ref 31), some (.ref 1), some (.ref 20)], [], gkA_X4_init_31, σ, 0, 0) (gkB_X4_init_31, zk_X4_init_31 σ) := by
  rw [ze_X4_init_31]
  exact ga_T_go (sp := ga_sp []) (ga_sp_T (fun _ h => nomatch h)) (n := 600) rfl
set_option maxRecDepth 100000 in
theorem tk_X0_init_32 (σ : ga_M) : ga_T RX0 cX0_init (ga_lk cl_X0_init) gaK gaCostK (fun _ => []) gaCls 84 8 8004 true true true none (fun _ _ => True) gk_kS (0, [some (.ref 32), some (.ref 1), some (.ref 20)], [], gkA_X0_init_32, σ, 0, 0) (gkB_X0_init_32, zk_X0_init_32 σ) := by
  rw [ze_X0_init_32]
  exact ga_T_go (sp := ga_sp []) (ga_sp_T (fun _ h => nomatch h)) (n := 600) rfl
set_option maxRecDepth 100000 in
theorem tk_X2_init_41 (σ : ga_M) : ga_T RX2 cX2_init (ga_lk cl_X2_init) gaK gaCostK (fun _ => []) gaCls 84 0 0 true true true none (fun _ _ => True) gk_kS (0, [some (.ref 41), some (.ref 1), some (.ref 20), some (.ref 31), some (.ref 32)], [], gkA_X2_init_41, σ, 0, 0) (gkB_X2_init_41, zk_X2_init_41 σ) := by
  rw [ze_X2_init_41]
  exact ga_T_go (sp := ga_sp []) (ga_sp_T (fun _ h => nomatch h)) (n := 600) rfl
set_option maxRecDepth 100000 in
theorem tk_X1_init_42 (σ : ga_M) : ga_T RX1 cX1_init (ga_lk cl_X1_init) gaK gaCostK (fun _ => []) gaCls 84 2 2001 true true true none (fun _ _ => True) gk_kS (0, [some (.ref 42), some (.ref 20)], [], gkA_X1_init_42, σ, 0, 0) (gkB_X1_init_42, zk_X1_init_42 σ) := by
  rw [ze_X1_init_42]
  exact ga_T_go (sp := ga_sp []) (ga_sp_T (fun _ h => nomatch h)) (n := 600) rfl
set_option maxRecDepth 100000 in
theorem tk_X10_init_45 (σ : ga_M) : ga_T RX10 cX10_init (ga_lk cl_X10_init) gaK gaCostK (fun _ => []) gaCls 84 2 2001 true true true none (fun _ _ => True) gk_kS (0, [some (.ref 45)], [], gkA_X10_init_45, σ, 0, 0) (gkB_X10_init_45, zk_X10_init_45 σ) := by
  rw [ze_X10_init_45]
  exact ga_T_go (sp := ga_sp []) (ga_sp_T (fun _ h => nomatch h)) (n := 600) rfl
set_option maxRecDepth 100000 in
theorem tk_X7_init_49 (σ : ga_M) : ga_T RX7 cX7_init (ga_lk cl_X7_init) gaK gaCostK (fun _ => []) gaCls 84 18 18009 true true true none (fun _ _ => True) gk_kS (0, [some (.ref 49)], [], gkA_X7_init_49, σ, 0, 0) (gkB_X7_init_49, zk_X7_init_49 σ) := by
  rw [ze_X7_init_49]
  exact ga_T_go (sp := ga_sp []) (ga_sp_T (fun _ h => nomatch h)) (n := 600) rfl
set_option maxRecDepth 100000 in
theorem tk_X8_init_48 (σ : ga_M) : ga_T RX8 cX8_init (ga_lk cl_X8_init) gaK gaCostK (fun _ => []) gaCls 84 19 18025 true true true none (fun _ _ => True) gk_kS (0, [some (.ref 48), some (.ref 45)], [], gkA_X8_init_48, σ, 0, 0) (gkB_X8_init_48, zk_X8_init_48 σ) := by
  rw [ze_X8_init_48]
  exact ga_T_go (sp := ga_sp []) (ga_sp_T (fun _ h => nomatch h)) (n := 600) rfl
set_option maxRecDepth 100000 in
theorem tk_X9_init_68 (σ : ga_M) : ga_T RX9 cX9_init (ga_lk cl_X9_init) gaK gaCostK (fun _ => []) gaCls 84 0 0 true true true none (fun _ _ => True) gk_kS (0, [some (.ref 68), some (.ref 45)], [], gkA_X9_init_68, σ, 0, 0) (gkB_X9_init_68, zk_X9_init_68 σ) := by
  rw [ze_X9_init_68]
  exact ga_T_go (sp := ga_sp []) (ga_sp_T (fun _ h => nomatch h)) (n := 600) rfl
set_option maxRecDepth 100000 in
theorem tk_X5_init_69 (σ : ga_M) : ga_T RX5 cX5_init (ga_lk cl_X5_init) gaK gaCostK (fun _ => []) gaCls 84 2 2001 true true true none (fun _ _ => True) gk_kS (0, [some (.ref 69), some (.ref 1), some (.ref 20)], [], gkA_X5_init_69, σ, 0, 0) (gkB_X5_init_69, zk_X5_init_69 σ) := by
  rw [ze_X5_init_69]
  exact ga_T_go (sp := ga_sp []) (ga_sp_T (fun _ h => nomatch h)) (n := 600) rfl
set_option maxRecDepth 100000 in
theorem tk_X11_init_0 (σ : ga_M) (q : ga_S × ga_M) (h : zk_X11_init_0 σ = some q) : ga_T RX11 cX11_init (ga_lk cl_X11_init) gaK gaCostK (fun _ => []) gaCls 84 71 60104 true true true none (fun _ _ => True) gk_kS (0, [some (.ref 0)], [], gkA_X11_init_0, σ, 0, 0) q := by
  rw [ze_X11_init_0] at h
  exact ga_T_go (sp := ga_sp []) (ga_sp_T (fun _ h => nomatch h)) (n := 600) h
end
