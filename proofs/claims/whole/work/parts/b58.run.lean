noncomputable section
/-! THE CLAIM OUT OF ONE WALK OF THE LAW'S BODY. Your part is whole_start (and what it stands on); all else here is the same for every law, but numbers. -/
def R_law : String := "SubstituteDeskLaw"
def lw_P (b : Addr) (xs : List Int32) (args : Array Value) (s : State) : Prop := args = #[.ref b] ∧ s.IntsAt b xs ∧ xs.length ≤ 3072 ∧ (Jvm.Cond.and given_1 narrow_1).before args s = true
/-- what a walk over the start with the record d0 says of its end, said of the start itself -/
theorem lw_closed {s t : State} {o : Outcome} {d0 : Drawn} {L : List Loc} {k n : Nat} (hd0 : s.drawn.sameBut d0 lw_cs) (hv : ∃ v, o = .returned v) (hW : (s.setDrawn d0).WarmedH t.vm) (hs : (s.setDrawn d0).sameButNew ({ t with vm := s.vm } : State) L k n) : State.butDraws s t lw_cs (fun t1 => Framed s o t1 L k n) := by
  have h2 : t.drawn = d0 := congrArg State.drawn hs.1
  refine ⟨⟨hv, hW, State.sameButNew.setDrawn hs s.drawn⟩, ?_, by decide⟩
  rw [h2]
  exact hd0
def lw_Q (_ : Array Value) (s : State) (o : Outcome) (t : State) : Prop := o = .returned (some (.int 1)) ∧ State.butDraws s t lw_cs (fun t1 => Framed s o t1 [] 601024 7293034)
def lw_Z (below : List Frame) (a : Array Value) (s : State) : State → Prop := fun t => ∃ o, t.status = .running ∧ Ended t below o ∧ lw_Q a s o t
/-- the law's own end, with 1 on the stack, nothing written that was there before, its room as the claim has it; d0: the record of draws at this point (at the entry s.drawn: begin with 'refine W.base ?_' and 'have hd0 := Drawn.sameBut.refl s.drawn lw_cs') -/
theorem lw_ret {p : Program} {l : Launch} {e : Env} {s : State} {m : MethodId} {below : List Frame} {meth : Method} {c : Code} {b : Nat} {d0 : Drawn} (hd0 : s.drawn.sameBut d0 lw_cs) (hx : p.tables.exec = Jvm.exec) (hb : c.code = code) (hr : meth.sig.returnType = ret) (hlocks : meth.locks = false) {pc : Nat} {H : Heap} {ls : Array Slot} (hdg : decode code pc = .ok (.ireturn, 1)) : W p l e room_1 (s.setDrawn d0) m #[Value.ref b] below meth c H [] 601024 7293034 (lw_Z below #[Value.ref b] s) (F0 m pc ls [.int 1]) := by
  intro T hT X
  obtain ⟨fs, hret, hrun, hended, hW, hframe⟩ := X.leave (v := some (.int 1)) (hlocks := hlocks) (fun h => by rw [hr] at h; cases h)
  have hmeth' : T.vm.method? m = some meth := X.method'
  refine ⟨T.setFrames fs, ?_, .returned (some (.int 1)), hrun, hended, rfl, lw_closed hd0 ⟨_, rfl⟩ hW hframe⟩
  jvm_step X.here [X.here.top, hx, hb, hdg, hmeth', hr, ret, narrow_b1]
  (try refine ⟨rfl, ?_⟩); (try refine ⟨rfl, ?_⟩)
  first | (intro acts; rw [hret _ acts rfl rfl rfl]) | rw [hret _ _ rfl rfl rfl]
  exact Steps.refl _
/-- what holds at the law's entry: the machine, the code, the tables' words (any of lw_tbl by 'hts w (by decide +kernel)'), the script of L ints xs at the cell b, what the Statement gives of the start (any of its parts by flat_of_before) -/
def lw_At (p : Program) (s : State) (m : MethodId) (meth : Method) (c : Code) (b L : Nat) (xs : Nat → Int32) : Prop :=
  p.tables.exec = Jvm.exec ∧ c.code = code ∧ meth.sig.returnType = ret ∧ c.maxLocals = 9 ∧ s.vm.findClass R_law = some m.cls ∧ (∀ w ∈ lw_tbl, w.before #[Value.ref b] s = true) ∧ va_X b L xs s s.heap ∧ b < s.heap.size ∧ meth.locks = false ∧ (Jvm.Cond.and given_1 narrow_1).before #[Value.ref b] s = true
section GX0
def gw_Φ : ga_O → Prop := fun o' => ∃ (S : ga_S) (σ : ga_M), o' = (.inl (some (.int 1)), S, σ)
variable {p : Program} {l : Launch} {e : Env} {s : State} {m : MethodId} {below : List Frame} {meth : Method} {c : Code} {b L : Nat} {xs : Nat → Int32}
variable {D : va_G} {cA : Nat → ClassId} {ad adV : Nat → Nat}
theorem gw_hΦ {r : ga_M} : ∀ o', ga_kI o' = some (1, r) → True → gw_Φ o' := by
  intro o' h _
  unfold ga_kI at h
  split at h
  · rename_i x S' σ'
    cases h
    exact ⟨_, _, rfl⟩
  · cases h
set_option maxRecDepth 100000 in
/-- the law's loop -/
theorem gw_loop (ok : ∀ (cb sb RC RS : Nat), cb + RC ≤ 601024 → sb + RS ≤ 7293034 → ga_Ok p l e room_1 s m #[Value.ref b] below meth c (lw_Z below #[Value.ref b] s) cL_law RL lw_tbl D cA ad (fun q : Nat => s.heap.size ≤ q) gw_code gaLaw gaCostK (fun _ => []) gaCls 83 RC RS false false true (some (999, L, xs)) gb_exn cb sb gw_Φ (fun _ _ => True)) : ∀ (n : Nat) (i : Int32) (w5 w6 w7 w8 : Option Value) (s1 : ga_M) (r : ga_M) (cb sb : Nat), f_L_law_h xs L n i s1 = some (1, r) → cb + 10 * n ≤ 601024 → sb + 60 * n ≤ 7293034 → ga_W p l e room_1 s m #[Value.ref b] below meth c (lw_Z below #[Value.ref b] s) D cA ad (fun q : Nat => s.heap.size ≤ q) 83 10 60 false cb sb (fun _ _ => True) (23, [some (.ref 999), some (.ref 0), some (.ref 72), some (.ref 82), some (.int i), w5, w6, w7, w8], [], gaSH, s1, 0, 0) := by
  intro n
  induction n with
  | zero => intro i w5 w6 w7 w8 s1 r cb sb h; cases h
  | succ n ih =>
    intro i w5 w6 w7 w8 s1 r cb sb h h1 h2
    refine gw_go (K0 := ga_kI) (r := (1, r)) (sp := gw_sp 23 (fun L2 S σ => match L2 with
      | [some (.ref 999), some (.ref 0), some (.ref 72), some (.ref 82), some (.int i), _, _, _, _] => bif gk_eq S gaSH then f_L_law_h xs L n i σ else none
      | _ => none)) (ok cb sb 10 60 (by omega) (by omega)) gw_hΦ ?_ (n := 600) h
    intro c' hc
    obtain ⟨L', S', σ', kc, ks, rfl, hf⟩ := gw_sp_s hc
    split at hf
    · rename_i i' x5 x6 x7 x8
      obtain ⟨hS, hf2⟩ := gc_bif hf
      have eS := gk_eq_eq hS
      subst eS
      exact gw_shift (cb2 := cb + 10) (sb2 := sb + 60) (by omega) (by omega) (ih i' _ _ _ _ σ' r (cb + 10) (sb + 60) hf2 (by omega) (by omega))
    · cases hf
set_option maxRecDepth 100000 in
theorem gw_law2 {N : Nat} (hN : N ≤ 600) (ok : ∀ (cb sb RC RS : Nat), cb + RC ≤ 601024 → sb + RS ≤ 7293034 → ga_Ok p l e room_1 s m #[Value.ref b] below meth c (lw_Z below #[Value.ref b] s) cL_law RL lw_tbl D cA ad (fun q : Nat => s.heap.size ≤ q) gw_code gaLaw gaCostK (fun _ => []) gaCls 83 RC RS false false true (some (999, L, xs)) gb_exn cb sb gw_Φ (fun _ _ => True)) (s1 r : ga_M) (cb sb : Nat) (h : f_L_law2 xs L N s1 = some (1, r)) (h1 : cb + 10000 ≤ 601024) (h2 : sb + 50000 ≤ 7293034) : ga_W p l e room_1 s m #[Value.ref b] below meth c (lw_Z below #[Value.ref b] s) D cA ad (fun q : Nat => s.heap.size ≤ q) 83 10 60 false cb sb (fun _ _ => True) (16, [some (.ref 999), some (.ref 0), some (.ref 72), none, none, none, none, none, none], [], gkB_X12_init_72, s1, 0, 0) := by
  unfold f_L_law2 at h
  refine gw_go (K0 := ga_kI) (r := (1, r)) (sp := gw_sp 23 (fun L2 S σ => match L2 with
      | [some (.ref 999), some (.ref 0), some (.ref 72), some (.ref 82), some (.int i), _, _, _, _] => bif gk_eq S gaSH then f_L_law_h xs L N i σ else none
      | _ => none)) (ok cb sb 10 60 (by omega) (by omega)) gw_hΦ ?_ (n := 600) h
  intro c' hc
  obtain ⟨L', S', σ', kc, ks, rfl, hf⟩ := gw_sp_s hc
  split at hf
  · rename_i i' x5 x6 x7 x8
    obtain ⟨hS, hf2⟩ := gc_bif hf
    have eS := gk_eq_eq hS
    subst eS
    exact gw_shift (cb2 := cb + 10) (sb2 := sb + 60) (by omega) (by omega) (gw_loop ok N i' _ _ _ _ σ' r (cb + 10) (sb + 60) hf2 (by omega) (by omega))
  · cases hf
set_option maxRecDepth 100000 in
theorem gw_law1 {N : Nat} (hN : N ≤ 600) (ok : ∀ (cb sb RC RS : Nat), cb + RC ≤ 601024 → sb + RS ≤ 7293034 → ga_Ok p l e room_1 s m #[Value.ref b] below meth c (lw_Z below #[Value.ref b] s) cL_law RL lw_tbl D cA ad (fun q : Nat => s.heap.size ≤ q) gw_code gaLaw gaCostK (fun _ => []) gaCls 83 RC RS false false true (some (999, L, xs)) gb_exn cb sb gw_Φ (fun _ _ => True)) (s1 r : ga_M) (cb sb : Nat) (h : f_L_law1 xs L N s1 = some (1, r)) (h1 : cb + 20000 ≤ 601024) (h2 : sb + 60000 ≤ 7293034) : ga_W p l e room_1 s m #[Value.ref b] below meth c (lw_Z below #[Value.ref b] s) D cA ad (fun q : Nat => s.heap.size ≤ q) 83 100 4000 false cb sb (fun _ _ => True) (8, [some (.ref 999), some (.ref 0), none, none, none, none, none, none, none], [], gkB_X11_init_0, s1, 0, 0) := by
  unfold f_L_law1 at h
  refine gw_go (K0 := ga_kI) (r := (1, r)) (sp := gw_sp 16 (fun L2 S σ => match L2 with
      | [some (.ref 999), some (.ref 0), some (.ref 72), none, none, none, none, none, none] => bif gk_eq S gkB_X12_init_72 then f_L_law2 xs L N σ else none
      | _ => none)) (ok cb sb 100 4000 (by omega) (by omega)) gw_hΦ ?_ (n := 600) h
  intro c' hc
  obtain ⟨L', S', σ', kc, ks, rfl, hf⟩ := gw_sp_s hc
  split at hf
  · obtain ⟨hS, hf2⟩ := gc_bif hf
    have eS := gk_eq_eq hS
    subst eS
    exact gw_shift (cb2 := cb + 100) (sb2 := sb + 4000) (by omega) (by omega) (gw_law2 hN ok σ' r (cb + 100) (sb + 4000) hf2 (by omega) (by omega))
  · cases hf
set_option maxRecDepth 100000 in
theorem gw_law {N : Nat} (hN : N ≤ 600) (ok : ∀ (cb sb RC RS : Nat), cb + RC ≤ 601024 → sb + RS ≤ 7293034 → ga_Ok p l e room_1 s m #[Value.ref b] below meth c (lw_Z below #[Value.ref b] s) cL_law RL lw_tbl D cA ad (fun q : Nat => s.heap.size ≤ q) gw_code gaLaw gaCostK (fun _ => []) gaCls 83 RC RS false false true (some (999, L, xs)) gb_exn cb sb gw_Φ (fun _ _ => True)) (s1 r : ga_M) (h : f_L_law xs L N s1 = some (1, r)) : ga_W p l e room_1 s m #[Value.ref b] below meth c (lw_Z below #[Value.ref b] s) D cA ad (fun q : Nat => s.heap.size ≤ q) 83 100 64000 false 0 0 (fun _ _ => True) (0, [some (.ref 999), none, none, none, none, none, none, none, none], [], [], s1, 0, 0) := by
  unfold f_L_law at h
  refine gw_go (K0 := ga_kI) (r := (1, r)) (sp := gw_sp 8 (fun L2 S σ => match L2 with
      | [some (.ref 999), some (.ref 0), none, none, none, none, none, none, none] => bif gk_eq S gkB_X11_init_0 then f_L_law1 xs L N σ else none
      | _ => none)) (ok 0 0 100 64000 (by omega) (by omega)) gw_hΦ ?_ (n := 600) h
  intro c' hc
  obtain ⟨L', S', σ', kc, ks, rfl, hf⟩ := gw_sp_s hc
  split at hf
  · obtain ⟨hS, hf2⟩ := gc_bif hf
    have eS := gk_eq_eq hS
    subst eS
    exact gw_shift (cb2 := 100) (sb2 := 64000) (by omega) (by omega) (gw_law1 hN ok σ' r 100 64000 hf2 (by omega) (by omega))
  · cases hf
end GX0
end
