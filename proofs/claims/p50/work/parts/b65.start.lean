noncomputable section
/-! THE CLAIM OUT OF ONE WALK OF THE LAW'S BODY. Your part is whole_start (and what it stands on); all else here is the same for every law, but numbers. -/
def R_law : String := "SubstituteDeskLaw"
def lw_P (b : Addr) (xs : List Int32) (args : Array Value) (s : State) : Prop := args = #[.ref b] ∧ s.IntsAt b xs ∧ xs.length ≤ 260 ∧ (Jvm.Cond.and given_1 narrow_1).before args s = true
/-- what a walk over the start with the record d0 says of its end, said of the start itself -/
theorem lw_closed {s t : State} {o : Outcome} {d0 : Drawn} {L : List Loc} {k n : Nat} (hd0 : s.drawn.sameBut d0 lw_cs) (hv : ∃ v, o = .returned v) (hW : (s.setDrawn d0).WarmedH t.vm) (hs : (s.setDrawn d0).sameButNew ({ t with vm := s.vm } : State) L k n) : State.butDraws s t lw_cs (fun t1 => Framed s o t1 L k n) := by
  have h2 : t.drawn = d0 := congrArg State.drawn hs.1
  refine ⟨⟨hv, hW, State.sameButNew.setDrawn hs s.drawn⟩, ?_, by decide⟩
  rw [h2]
  exact hd0
def lw_Q (_ : Array Value) (s : State) (o : Outcome) (t : State) : Prop := o = .returned (some (.int 1)) ∧ State.butDraws s t lw_cs (fun t1 => Framed s o t1 [] 600086 7301441)
def lw_Z (below : List Frame) (a : Array Value) (s : State) : State → Prop := fun t => ∃ o, t.status = .running ∧ Ended t below o ∧ lw_Q a s o t
/-- the law's own end, with 1 on the stack, nothing written that was there before, its room as the claim has it; d0: the record of draws at this point (at the entry s.drawn: begin with 'refine W.base ?_' and 'have hd0 := Drawn.sameBut.refl s.drawn lw_cs') -/
theorem lw_ret {p : Program} {l : Launch} {e : Env} {s : State} {m : MethodId} {below : List Frame} {meth : Method} {c : Code} {b : Nat} {d0 : Drawn} (hd0 : s.drawn.sameBut d0 lw_cs) (hx : p.tables.exec = Jvm.exec) (hb : c.code = code) (hr : meth.sig.returnType = ret) (hlocks : meth.locks = false) {pc : Nat} {H : Heap} {ls : Array Slot} (hdg : decode code pc = .ok (.ireturn, 1)) : W p l e room_1 (s.setDrawn d0) m #[Value.ref b] below meth c H [] 600086 7301441 (lw_Z below #[Value.ref b] s) (F0 m pc ls [.int 1]) := by
  intro T hT X
  obtain ⟨fs, hret, hrun, hended, hW, hframe⟩ := X.leave (v := some (.int 1)) (hlocks := hlocks) (fun h => by rw [hr] at h; cases h)
  have hmeth' : T.vm.method? m = some meth := X.method'
  refine ⟨T.setFrames fs, ?_, .returned (some (.int 1)), hrun, hended, rfl, lw_closed hd0 ⟨_, rfl⟩ hW hframe⟩
  jvm_step X.here [X.here.top, hx, hb, hdg, hmeth', hr, ret, narrow_b1]
  (try refine ⟨rfl, ?_⟩); (try refine ⟨rfl, ?_⟩)
  first | (intro acts; rw [hret _ acts rfl rfl rfl]) | rw [hret _ _ rfl rfl rfl]
  exact Steps.refl _
/-- what holds at the law's entry: the machine, the code, the tables' words (any of lw_tbl by 'hts w (by decide +kernel)'), the script of L ints xs at the cell b, what the Statement gives of the start (any of its parts by flat_of_before) -/
def lw_At (p : Program) (s : State) (m : MethodId) (meth : Method) (c : Code) (b L : Nat) (xs : Nat → Int32) : Prop :=
  p.tables.exec = Jvm.exec ∧ c.code = code ∧ meth.sig.returnType = ret ∧ c.maxLocals = 23 ∧ s.vm.findClass R_law = some m.cls ∧ (∀ w ∈ lw_tbl, w.before #[Value.ref b] s = true) ∧ va_X b L xs s s.heap ∧ b < s.heap.size ∧ meth.locks = false ∧ (Jvm.Cond.and given_1 narrow_1).before #[Value.ref b] s = true
section GX0
def gw_Φ : ga_O → Prop := fun o' => ∃ (S : ga_S) (σ : ga_M), o' = (.inl (some (.int 1)), S, σ)
variable {p : Program} {l : Launch} {e : Env} {s : State} {m : MethodId} {below : List Frame} {meth : Method} {c : Code} {b L : Nat} {xs : Nat → Int32}
variable {D : va_G} {cA : Nat → ClassId} {ad adV : Nat → Nat}
theorem gw_lk1 {pc : Nat} {r : ga_E} : ga_lk [(pc, r)] pc = some r := by simp [ga_lk]
theorem gw_rkP {pc : Nat} {r : ga_E} (h : gw_code pc = some r) : gk_rk RL gb_flL gb_slL gb_nlL gb_llL gb_tlL gk_nwL gk_oiL cL_law (pc, r) = true := (gw_code_mem h).elim fun i hi => List.all_eq_true.mp (gw_rkA i) _ (gb_lk_mem hi)
theorem gw_rkS {pc : Nat} {r : ga_E} (h : gw_code pc = some r) : [(pc, r)].all (gk_rk RL gb_flL gb_slL gb_nlL gb_llL gb_tlL gk_nwL gk_oiL cL_law) = true := by rw [List.all_cons, gw_rkP h]; rfl
/-- where the law stands -/
theorem gw_ok (hl : l.stackTraces = false) (C0 : lw_At p s m meth c b L xs) (hE : gb_E D cA ad (fun q : Nat => s.heap.size ≤ q) adV s s.heap) : ∀ (cb sb RC RS : Nat), cb + RC ≤ 600086 → sb + RS ≤ 7301441 → ga_Ok p l e room_1 s m #[Value.ref b] below meth c (lw_Z below #[Value.ref b] s) cL_law RL lw_tbl D cA ad (fun q : Nat => s.heap.size ≤ q) gw_code (gaLaw (gw_xs adV) (adV 1999)) gaCostW (fun _ => []) gaCls 84 RC RS false true true none gb_exn cb sb gw_Φ (fun _ _ => True) := by
  obtain ⟨hx, hb, hr, hml, hown, hts, hX, hbl, hlocks, hgv⟩ := C0
  intro cb sb RC RS h1 h2
  have hT : ∀ w ∈ gb_good, w ∈ lw_tbl := fun w h => (List.mem_filter.mp h).1
  have key := fun {pc : Nat} {r : ga_E} (h : gw_code pc = some r) => gk_rows (own := RL) (cc := cL_law) (s := s) (args := #[Value.ref b]) (Ts := lw_tbl) gb_oL gk_oL gk_wd (gw_rkS h) hT hts hE
  have c1 : ∀ pc ins len r1 r2 sw, gw_code pc = some (ins, len, r1, r2, sw) → decode cL_law pc = .ok (ins, len) ∧ ga_chk pc ins len r1 sw = true := fun pc ins len r1 r2 sw h => (key h).1 _ _ _ _ _ _ gw_lk1
  refine ⟨hx, hb, hown, hts, hE.1, hE.2.2.2.2.2.2.2.2.2.1, hE.2.2.2.2.2.2.2.2.2.2, ⟨h1, h2, by decide, by decide⟩, (fun h => by cases h), (fun q h => by cases h), c1, fun pc idx len r1 r2 sw h => (key h).2.1 _ _ _ _ _ _ gw_lk1, fun pc idx len r1 r2 sw h => (key h).2.2.1 _ _ _ _ _ _ gw_lk1, fun pc idx len r1 r2 sw h => (key h).2.2.2.1 _ _ _ _ _ _ gw_lk1, fun pc at' len r1 r2 sw h => (key h).2.2.2.2.1 _ _ _ _ _ _ gw_lk1, fun pc idx len r2 sw h => (key h).2.2.2.2.2.1 _ _ _ _ _ gw_lk1, ⟨fun pc idx len r1 r2 h => h.elim (fun h => (key h).2.2.2.2.2.2.1.1 pc idx len r1 r2 (Or.inl gw_lk1)) (fun h => (key h).2.2.2.2.2.2.1.1 pc idx len r1 r2 (Or.inr gw_lk1)), fun pc idx len r1 r2 q r h => h.elim (fun h => (key h).2.2.2.2.2.2.1.2 pc idx len r1 r2 q r (Or.inl gw_lk1)) (fun h => (key h).2.2.2.2.2.2.1.2 pc idx len r1 r2 q r (Or.inr gw_lk1))⟩, fun pc idx len r1 r2 sw h => (key h).2.2.2.2.2.2.2 _ _ _ _ _ _ gw_lk1, ⟨Or.inl fun _ _ => trivial, fun _ _ _ _ _ => trivial, fun _ _ _ _ _ _ _ => trivial, ge_Lg _ _⟩, ?_, ?_, ?_, gb_catOk, ?_⟩
  · refine gb_callOkB (lev := 10) (by decide) (by decide) h1 h2 hx hb hml hown hT hts hE c1 ?_
    intro pc ins len mid na sw h hi
    obtain ⟨i, hi9⟩ := gw_code_mem h
    exact gw_hlk (gw_rows_ok hl) (gw_crA i) _ (gb_lk_mem hi9) hi
  · intro pc idx len r1 r2 sw h h9
    obtain ⟨i, hi9⟩ := gw_code_mem h
    have h1 : Nat.blt r1 1000 = true := List.all_eq_true.mp (gw_ntA i) _ (gb_lk_mem hi9)
    have h2 := Nat.le_of_ble_eq_true h1
    exact absurd h9 (by omega)
  · intro E S σ h
    obtain ⟨S1, σ1, h⟩ := h
    cases h
  · intro v S σ h pc kc ks hk1 hk2 hri H locs ls hI
    obtain ⟨S1, σ1, h⟩ := h
    cases h
    refine W.widen (k := 600086) (n := 7301441) (by omega) (by omega) ?_
    refine va_forget (fun q hq => hI.2.2.1.2.2 q hq) ?_
    refine W.base ?_
    exact lw_ret (Drawn.sameBut.refl s.drawn lw_cs) hx hb hr hlocks hri
theorem gw_hΦ {r : ga_M} : ∀ o', ga_kI o' = some (1, r) → True → gw_Φ o' := by
  intro o' h _
  unfold ga_kI at h
  split at h
  · rename_i x S' σ'
    cases h
    exact ⟨_, _, rfl⟩
  · cases h
/-- the law from its entry, out of what the printed function answers -/
theorem gw_start (hl : l.stackTraces = false) (C0 : lw_At p s m meth c b L xs) (hlaw : ∀ (xs : Nat → Int32) (LN : Nat) (σ : ga_M), ∃ r : ga_M, f_L_law xs LN σ = some (1, r)) : W p l e room_1 s m #[Value.ref b] below meth c s.heap [] 0 0 (lw_Z below #[Value.ref b] s) (entryFrame m ([Value.ref b] : List Value).toArray 23) := by
  have hn : narrow_1.before #[Value.ref b] s = true := by
    have := C0.2.2.2.2.2.2.2.2.2
    rw [Cond.before_and, Bool.and_eq_true] at this
    exact this.2
  obtain ⟨D, cA, ad, adV, hE, had, had0⟩ := gw_E (b := b) hn C0.2.2.2.2.2.1 C0.2.2.2.2.2.2.1 C0.2.2.2.2.2.2.2.1
  obtain ⟨r, hr⟩ := hlaw (gw_xs adV) (adV 1999) (fun _ _ => 0)
  have hW := tv_law0 (fun _ _ => 0) (1, r) hr p l e room_1 s m #[Value.ref b] below meth c (lw_Z below #[Value.ref b] s) lw_tbl D cA ad (fun q : Nat => s.heap.size ≤ q) gb_exn 0 0 600086 7301441 gw_Φ (fun a b' RC RS h1 h2 => gw_ok (e := e) (below := below) hl C0 hE (0 + a) (0 + b') RC RS (by omega) (by omega)) gw_hΦ 0 0 (by decide) (by decide)
  have hml : c.maxLocals = 23 := C0.2.2.2.1
  have hP : va_P D vwCl (ga_w cA ad [] (fun _ _ => 0)) s.heap := fun k q h => by cases h
  have hD : va_D (fun q : Nat => s.heap.size ≤ q) (ga_w cA ad [] (fun _ _ => 0)) := ⟨fun i j p q h => (by cases h), fun k q h => (by cases h)⟩
  have hL := gb_L0_L (ad := ad) (as := [Value.ref 999]) (n := 23) (Nat.le_of_ble_eq_true rfl)
  have e9 : ([Value.ref 999] : List Value).map (ga_v ad) = [Value.ref b] := by
    show [Value.ref (ad 999)] = [Value.ref b]
    rw [had]
  rw [e9] at hL
  rw [lg_entry_eq]
  exact hW (gb_L0_lf (as := [Value.ref 999]) (n := 23) rfl) trivial (Nat.zero_le _) (Nat.zero_le _) s.heap [] _ ⟨hP, hD, va_S.rf, fun _ => had0.symm⟩ (by rw [hml]; exact hL)
end GX0
end
