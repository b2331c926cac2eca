noncomputable section
section GL0
/-! ===== the law's own methods: each calls one of the class's and catches what it throws ===== -/
def gl_nn (q : Nat × ga_E) : Bool := match q.2.1 with
  | .new _ => false
  | _ => true
def gl_hn (pc0 : Nat) (Z : List ((Nat × Nat × Nat × Nat) × (Nat × Nat × Nat))) : Nat → ga_H := fun pc => bif Nat.beq pc pc0 then Z.map (fun z => z.2) else []
/-- a handler's row in the table, and where the small machine goes on -/
def gl_p (own : String) (cc : ByteArray) (maxL pc0 : Nat) (z : (Nat × Nat × Nat × Nat) × (Nat × Nat × Nat)) : Prop :=
  covers ⟨z.1.1, z.1.2.1, z.1.2.2.1, z.1.2.2.2⟩ pc0 = true ∧ z.1.2.2.2 ≠ 0 ∧ z.2.1 ∈ ([1] : List Nat) ∧ Cond.classLink own z.1.2.2.2 (gb_exn z.2.1) ∈ gb_good ∧ z.2.2.2 < maxL ∧
  ((decode cc z.1.2.2.1 = .ok (.astore z.2.2.2, 2) ∧ z.2.2.1 = z.1.2.2.1 + 2) ∨ ∃ k : Fin 4, decode cc z.1.2.2.1 = .ok (.astore_n k, 1) ∧ (k : Nat) = z.2.2.2 ∧ z.2.2.1 = z.1.2.2.1 + 1)
theorem gl_cm : ∀ a ∈ ([1] : List Nat), Cond.castable (gb_exn a) (gb_exn a) ∈ gb_oth := by decide +kernel
theorem gl_nc : ∀ a ∈ ([1] : List Nat), ∀ b ∈ ([1] : List Nat), a ≠ b → (gb_exn a, gb_exn b) ∈ gb_nc := by decide +kernel
theorem gl_ws_good {y : MethodName} {cc : ByteArray} {n : Nat} {r : Option FieldType} {hh : List (Nat × Nat × Nat × Nat)} : ∀ w ∈ gb_good, w ∈ gb_wsW y cc n r hh := fun _ h => List.mem_cons_of_mem _ h
theorem gl_L {ad : Nat → Nat} {ls ls' : Array Slot} {nL i : Nat} {L : ga_Lo} {x : Value} (hf : ga_lf true L) (hL : ga_L ad ls nL L) (h : lv_has ls' nL ((i, x) :: (ga_lp ad L).filter (fun q => !(q.1 == i) && !(q.1 + 1 == i && q.2.category == 2)))) : ga_L ad ls' nL (L.set i none) := by
  refine ⟨by rw [List.length_set]; exact hL.1, h.1, h.2.1, fun j w hj => ?_⟩
  by_cases e : j = i
  · subst e
    have hlt := (List.getElem?_eq_some_iff.mp hj).1
    rw [List.length_set] at hlt
    rw [List.getElem?_set_self hlt] at hj
    cases hj
  · rw [List.getElem?_set_ne (Ne.symm e)] at hj
    refine h.2.2 (j, ga_v ad w) (List.mem_cons_of_mem _ (List.mem_filter.mpr ⟨ga_lp_mem hj, ?_⟩))
    have h2 : ¬ w.category = 2 := hf rfl j w hj
    simp only [ga_v_cat]
    simp only [Bool.and_eq_true, Bool.not_eq_true', beq_eq_false_iff_ne, Bool.and_eq_false_imp, beq_iff_eq]
    exact ⟨e, fun _ z2 => h2 z2⟩
variable {p : Program} {l : Launch} {e : Env} {R : Room} {s : State} {m : MethodId} {args : Array Value} {below : List Frame} {meth : Method} {c : Code} {Q : State → Prop}
variable {D : va_G} {cA : Nat → ClassId} {ad : Nat → Nat} {A : Nat → Prop} {adV : Nat → Nat}
theorem gl_catOk {cc : ByteArray} {own : String} {maxL pc0 : Nat} {Z : List ((Nat × Nat × Nat × Nat) × (Nat × Nat × Nat))} (hx : p.tables.exec = Jvm.exec) (hb : c.code = cc) (hml : c.maxLocals = maxL) (hown : s.vm.findClass own = some m.cls) (htab : c.exceptionTable.toList = tableOf (Z.map fun z => z.1))
    (hZ : ∀ z ∈ Z, gl_p own cc maxL pc0 z) (hgood : ∀ w ∈ gb_good, w.before args s = true) (hE : gb_E D cA ad A adV s s.heap) : ga_CatOk p l e R s m args below meth c Q D cA ad A (gl_hn pc0 Z) 84 true gb_exn 0 0 := by
  intro pc E pre h suf hh st L S σ kc ks H locs ls q ce hNF hf hI hL hce hcv hcl hk
  obtain ⟨h1, h2, h3⟩ := hh
  have h1 : (bif Nat.beq pc pc0 then Z.map (fun z => z.2) else []) = pre ++ h :: suf := h1
  cases hb9 : Nat.beq pc pc0 with
  | false =>
    rw [hb9] at h1
    have := congrArg List.length h1
    simp at this
  | true =>
    rw [hb9] at h1
    have h8 : Z.map (fun z => z.2) = pre ++ h :: suf := h1
    clear h1
    obtain rfl := Nat.eq_of_beq_eq_true hb9
    obtain ⟨Zp, Zr, rfl, hp, hr⟩ := List.map_eq_append_iff.mp h8
    obtain ⟨z, Zs, rfl, hz, hs⟩ := List.map_eq_cons_iff.mp hr
    subst hz
    subst h3
    obtain ⟨g1, g2, g3, g4, g5, g6⟩ := hZ z (List.mem_append_right _ List.mem_cons_self)
    have hsplit : c.exceptionTable.toList = tableOf (Zp.map fun z => z.1) ++ ⟨z.1.1, z.1.2.1, z.1.2.2.1, z.1.2.2.2⟩ :: tableOf (Zs.map fun z => z.1) := by
      rw [htab]; simp [tableOf]
    refine vx_catch hown _ _ _ hsplit (fun x hx9 => ?_) g1 g2 (hgood _ g4) (va_Nw.use rfl (hE.2.2.2.1 _ (gl_cm _ g3))) hce hcv hcl ?_
    · obtain ⟨y, hy, rfl⟩ := List.mem_map.mp hx9
      obtain ⟨z9, hz9, rfl⟩ := List.mem_map.mp hy
      obtain ⟨k1, k2, k3, k4, k5, k6⟩ := hZ z9 (List.mem_append_left _ hz9)
      have hne := h2 z9.2 (by rw [← hp]; exact List.mem_map.mpr ⟨z9, hz9, rfl⟩)
      exact Or.inr ⟨k2, gb_exn z9.2.1, hgood _ k4, hE.2.2.2.2.1 _ (gl_nc _ g3 _ k3 hne)⟩
    · rcases g6 with ⟨d1, d2⟩ | ⟨k, d1, d2, d3⟩
      · refine lv_astore hx hb d1 hL.has (by rw [hml]; exact g5) rfl (fun ls' h' => ?_)
        have := hk ls' (gl_L hf hL h')
        rw [d2] at this
        exact this
      · refine lv_astore_n hx hb d1 d2 hL.has (by rw [hml]; exact g5) rfl (fun ls' h' => ?_)
        have := hk ls' (gl_L hf hL h')
        rw [d3] at this
        exact this
end GL0
section GL1
variable {l : Launch} {D : va_G} {cA : Nat → ClassId} {ad : Nat → Nat} {A : Nat → Prop} {adV : Nat → Nat}
/-- a method's contract, out of its run -/
theorem gl_met {y : MethodName} {own : String} {cc : ByteArray} {cl : List (Nat × ga_E)} {g : ga_G} {cost : Nat → Nat × Nat} {maxL lev mc ms : Nat} {ret : Option FieldType} {wr : Bool} {PS : ga_S → ga_M → Prop} {as : List Value} {S : ga_S} {σ : ga_M} {r : (Int32 ⊕ Nat) × ga_M} {o : ga_O} {pc0 : Nat} {Z : List ((Nat × Nat × Nat × Nat) × (Nat × Nat × Nat))}
    {fl : List (Nat × Nat × Nat)} {sl : List (Nat × Nat)} {nl ll : List (Nat × Int32)} {tl : List (Nat × Nat × Nat)}
    (hl : l.stackTraces = false) (hy : plainName y.cls = true) (hyo : y.cls = own) (hnw : cl.all gl_nn = true) (hZ : ∀ z ∈ Z, gl_p own cc maxL pc0 z) (hown : gb_Own own fl sl nl ll tl) (hck : cl.all (gb_rk fl sl nl ll tl cc) = true)
    (hlk : ∀ q ∈ cl, ((∃ i, q.2.1 = .invokevirtual i) ∨ (∃ i, q.2.1 = .invokestatic i) ∨ (∃ i, q.2.1 = .invokespecial i) ∧ q.2.2.2.1 ≠ 0) → (∀ as S σ, g ga_O q.2.2.2.1 as S σ some = none) ∨ gb_LkM g own q.2.1 q.2.2.2.1 q.2.2.2.2.1 ∨ gb_Lk l D cA ad A adV g cost PS own lev q.2.1 q.2.2.2.1 q.2.2.2.2.1 q.2.2.2.2.2)
    (hT : ga_T own cc (ga_lk cl) g cost (gl_hn pc0 Z) gaCls 84 mc ms false true wr none PS ga_kIX (0, gb_L0 as maxL, [], S, σ, 0, 0) r)
    (hPS : PS S σ) (hwr : wr = true → ∀ S σ σ1, PS S σ → PS S σ1)
    (hg1 : ∀ mid as S σ o, PS S σ → g ga_O mid as S σ some = some o → PS o.2.1 o.2.2) (hg2 : ∀ (α : Type) mid as S σ (k : ga_O → Option α) o, g α mid as S σ k = some o → ∃ o1, g ga_O mid as S σ some = some o1 ∧ k o1 = some o)
    (ho : ∀ o', ga_kIX o' = some r → PS o'.2.1 o'.2.2 → o' = o) (hof : ∀ E, o.1 ≠ .inr E) (hrt : ∀ v, o.1 = .inl v → gb_rt ret v)
    (hn : (gb_fl as).length ≤ maxL) (hlf : (!true || as.all fun v => v.category == 1) = true) :
    gb_C l D cA ad A adV y (gb_wsW y cc maxL ret (Z.map fun z => z.1)) lev mc ms as S σ o := by
  refine vx_ofWH (cc := cc) (maxL := maxL) (ret := ret) (hh := Z.map fun z => z.1) hy rfl ?_
  intro p e s m args below meth c s₁ B hml hPc
  obtain ⟨rfl, hP, hE⟩ := hPc
  have hx := B.exec
  have hb := B.bytes
  have hr := B.returns
  have hts := atoms_spec (ws := gb_wsW y cc maxL ret (Z.map fun (z : ((Nat × Nat × Nat × Nat) × (Nat × Nat × Nat))) => z.1)) B.pre
  have htab : c.exceptionTable.toList = tableOf (Z.map fun z => z.1) := vx_table (x := y) B (hts _ List.mem_cons_self)
  have hcls : s.vm.findClass own = some m.cls := hyo ▸ findClass_of_methodNamed B.named
  have hlocks : meth.locks = false := B.notSynchronized
  have hS : va_S A s.heap s.heap [] := va_S.rf
  have hgood : ∀ w ∈ gb_good, w.before (as.map (ga_v ad)).toArray s = true := fun w h => hts w (gl_ws_good w h)
  have hrow : ∀ pc r, ga_lk cl pc = some r → gb_rk fl sl nl ll tl cc (pc, r) = true := fun pc r h => List.all_eq_true.mp hck _ (gb_lk_mem h)
  have hdec : ∀ pc ins len r1 r2 sw, ga_lk cl pc = some (ins, len, r1, r2, sw) → decode cc pc = .ok (ins, len) ∧ ga_chk pc ins len r1 sw = true := by
    intro pc ins len r1 r2 sw h
    obtain ⟨h1, h2⟩ := Bool.and_eq_true_iff.mp (hrow _ _ h)
    exact ⟨of_decide_eq_true h1, (Bool.and_eq_true_iff.mp h2).1⟩
  have hfg : ∀ pc r idx ci k, ga_lk cl pc = some r → (fl.any fun z => z.1 == idx && z.2.1 == ci && z.2.2 == k) = true → ga_Fd own (as.map (ga_v ad)).toArray s (gb_wsW y cc maxL ret (Z.map fun z => z.1)) idx ci k ∨ ga_Fg own (as.map (ga_v ad)).toArray s (gb_wsW y cc maxL ret (Z.map fun z => z.1)) idx ci k := by
    intro pc r idx ci k _ h
    obtain ⟨C, T, N, ty, h1, h2, h3, h4, h5, h6, h7⟩ := hown.1 _ (gb_any3 h)
    exact Or.inr ⟨C, T, N, h1, h2, hgood _ h3, fun w hw => gl_ws_good w (h4 w hw)⟩
  have hfd : ∀ idx ci k, (fl.any fun z => z.1 == idx && z.2.1 == ci && z.2.2 == k) = true → (∀ q, vwCl[ci]? = some q → (q.2.1 k).2.2.2 = false) → ga_Fd own (as.map (ga_v ad)).toArray s (gb_wsW y cc maxL ret (Z.map fun z => z.1)) idx ci k := by
    intro idx ci k h hfin
    obtain ⟨C, T, N, ty, h1, h2, h3, h4, h5, h6, h7⟩ := hown.1 _ (gb_any3 h)
    exact ⟨C, T, N, ty, h1, h2, hgood _ h3, fun w hw => gl_ws_good w (h4 w hw), h5, h6, h7, fun h8 => by rw [hfin _ h1] at h8; cases h8⟩
  have hn1 : ∀ pc idx len r1 r2 sw, ga_lk cl pc = some (.new idx, len, r1, r2, sw) → 1000 ≤ r1 := fun pc idx len r1 r2 sw h => of_decide_eq_true (Bool.and_eq_true_iff.mp (Bool.and_eq_true_iff.mp (Bool.and_eq_true_iff.mp (hrow _ _ h)).2).2).1
  have hn2 : ∀ pc at' len r1 r2 sw, ga_lk cl pc ≠ some (.newarray at', len, r1, r2, sw) := fun pc at' len r1 r2 sw h => by
    have h1 := (Bool.and_eq_true_iff.mp (Bool.and_eq_true_iff.mp (hrow _ _ h)).2).2
    cases h1
  have ok : ga_Ok p l e (gb_rm lev mc ms) s m (as.map (ga_v ad)).toArray below meth c (vx_MQ below (gb_Qc D cA ad A o) (gb_XC D cA ad A o) (as.map (ga_v ad)).toArray s mc ms A) cc own (gb_wsW y cc maxL ret (Z.map fun z => z.1)) D cA ad A (ga_lk cl) g cost (gl_hn pc0 Z) gaCls 84 mc ms false true wr none gb_exn 0 0 (fun o' => o' = o) PS := by
    refine ⟨hx, hb, hcls, hts, hE.1, hE.2.2.2.2.2.2.2.2.2.1, hE.2.2.2.2.2.2.2.2.2.2, ⟨by simp [gb_rm], by simp [gb_rm], by simp only [gb_rm]; omega, by simp only [gb_rm]; omega⟩, (fun h => by cases h), (fun q h => by cases h), hdec, ?_, ?_, ?_, ?_, ?_, ⟨?_, ?_⟩, ?_, ⟨Or.inr ⟨Or.inr ⟨hn1, hn2⟩, rfl⟩, hwr, hg1, hg2⟩, ?_, ?_, ?_, gl_catOk hx hb hml hcls htab hZ hgood hE, gb_retOk hx hb hr hlocks hrt⟩
    · intro pc idx len r1 r2 sw h
      have h1 := (Bool.and_eq_true_iff.mp (Bool.and_eq_true_iff.mp (hrow _ _ h)).2).2
      obtain ⟨C, T, N, ty, h1, h2, h3, h4, h5, h6, h7⟩ := hown.1 _ (gb_any3 h1)
      exact ⟨C, T, N, h1, h2, hgood _ h3, fun w hw => gl_ws_good w (h4 w hw)⟩
    · intro pc idx len r1 r2 sw h
      have h1 := (Bool.and_eq_true_iff.mp (Bool.and_eq_true_iff.mp (hrow _ _ h)).2).2
      obtain ⟨h2, h3⟩ := Bool.and_eq_true_iff.mp h1
      obtain ⟨h4, h5⟩ := Bool.and_eq_true_iff.mp h2
      have h4 : sw.isEmpty = true := h4
      have hfin : ∀ q, vwCl[r1]? = some q → (q.2.1 r2).2.2.2 = false := by
        intro q hq
        dsimp only at h3
        rw [hq] at h3
        simpa using h3
      exact ⟨hfd idx r1 r2 h5 hfin, fun q hq => by rw [hfin q hq, h4]; rfl⟩
    · intro pc idx len r1 r2 sw h h9
      have h1 := (Bool.and_eq_true_iff.mp (Bool.and_eq_true_iff.mp (hrow _ _ h)).2).2
      have h2 := of_decide_eq_true (Bool.and_eq_true_iff.mp h1).1
      exact absurd h2 (by show ¬ 1000 ≤ r1; omega)
    · intro pc at' len r1 r2 sw h
      have h1 := (Bool.and_eq_true_iff.mp (Bool.and_eq_true_iff.mp (hrow _ _ h)).2).2
      cases h1
    · intro pc idx len r2 sw h
      have h1 := (Bool.and_eq_true_iff.mp (Bool.and_eq_true_iff.mp (hrow _ _ h)).2).2
      cases h1
    · intro pc idx len r1 r2 h
      have key : ∃ r, ga_lk cl pc = some r ∧ (decide (1000 ≤ r1) && sl.any fun z => z.1 == idx && z.2 == r1 - 1000) = true := by
        rcases h with h | h
        · exact ⟨_, h, (Bool.and_eq_true_iff.mp (Bool.and_eq_true_iff.mp (hrow _ _ h)).2).2⟩
        · exact ⟨_, h, (Bool.and_eq_true_iff.mp (Bool.and_eq_true_iff.mp (hrow _ _ h)).2).2⟩
      obtain ⟨_, _, h1⟩ := key
      obtain ⟨h2, h3⟩ := Bool.and_eq_true_iff.mp h1
      have h2 := of_decide_eq_true h2
      obtain ⟨tx, htx⟩ := hown.2.1 _ (gb_any2 h3)
      refine ⟨tx, ?_⟩
      have h5 := hE.2.1 _ htx
      have h5 : vk_R own idx tx (ad (1000 + (r1 - 1000))) s := h5
      rwa [show 1000 + (r1 - 1000) = r1 by omega] at h5
    · intro pc idx len r1 r2 q r' h
      have key : (nl.any fun w => w.1 == idx && w.2 == q.1) = true := by
        rcases h with h | h
        · exact (Bool.and_eq_true_iff.mp (Bool.and_eq_true_iff.mp (hrow _ _ h)).2).2
        · exact (Bool.and_eq_true_iff.mp (Bool.and_eq_true_iff.mp (hrow _ _ h)).2).2
      exact hgood _ (hown.2.2.1 _ (gb_anyi key))
    · intro pc idx len r1 r2 sw h
      have h1 := (Bool.and_eq_true_iff.mp (Bool.and_eq_true_iff.mp (hrow _ _ h)).2).2
      cases sw with
      | nil => cases h1
      | cons q r' => exact ⟨q, r', rfl, hgood _ (hown.2.2.2.1 _ (gb_anyi h1))⟩
    · refine gb_callOk (Nat.le_refl _) (Nat.le_refl _) (Nat.le_refl _) (Nat.le_refl _) hx hb hml hcls gl_ws_good hts hE hdec ?_
      intro pc ins len mid na sw h hi
      exact hlk _ (gb_lk_mem h) hi
    · intro pc idx len r1 r2 sw h
      have := List.all_eq_true.mp hnw _ (gb_lk_mem h)
      cases this
    · intro E S' σ' hΦ
      exact absurd (congrArg (fun z : ga_O => z.1) (show ((Sum.inr E, S', σ') : ga_O) = o from hΦ)).symm (hof E)
  have hW := hT p l e (gb_rm lev mc ms) s m (as.map (ga_v ad)).toArray below meth c (vx_MQ below (gb_Qc D cA ad A o) (gb_XC D cA ad A o) (as.map (ga_v ad)).toArray s mc ms A) (gb_wsW y cc maxL ret (Z.map fun z => z.1)) D cA ad A gb_exn 0 0 (fun o' => o' = o) ok ho (gb_L0_lf hlf) hPS (Nat.zero_le _) (Nat.zero_le _) s.heap []
  rw [lg_entry_eq]
  exact hW _ ⟨hP.1, hP.2.1, hS, hP.2.2⟩ (by rw [hml]; exact gb_L0_L hn)
theorem gl_pnL : plainName RL = true := by decide +kernel
theorem gl_nmL : gb_Nm RL := by unfold gb_Nm; decide +kernel
theorem gc_rk_L_cover : cl_L_cover.all (gb_rk gb_flL gb_slL gb_nlL gb_llL gb_tlL cL_cover) = true := by decide +kernel
theorem gc_ck_L_cover : cl_L_cover.all (gc_ck gb_lkL gb_lnL [407] 7) = true := by decide +kernel
theorem gl_nn_L_cover : cl_L_cover.all gl_nn = true := by decide +kernel
theorem gl_438 (hl : l.stackTraces = false) (a : Int32) (b : Int32) (σ : ga_M) (x : Int32) (σ' : ga_M) (hq : f_L_cover_0 a b σ = some (.inl x, σ')) : gb_C l D cA ad A adV yL_cover (gb_wsW yL_cover cL_cover 4 (some .int) [(0, 6, 7, 31)]) 7 3 18 [.ref 0, .int a, .int b] gaSH σ (.inl (some (.int x)), gaSH, σ') := by
  have hM : ∀ mid ∈ ([407] : List Nat), gc_MM l D cA ad A adV mid := (List.forall_mem_cons.mpr ⟨gm_407 hl, fun _ h => nomatch h⟩)
  exact gl_met (y := yL_cover) (own := RL) (cc := cL_cover) (cl := cl_L_cover) (g := gaG) (cost := gaCost) (maxL := 4) (wr := true) (PS := fun S _ => S = gaSH) (pc0 := 3) (Z := [((0, 6, 7, 31), (1, 8, 3))]) hl gl_pnL rfl gl_nn_L_cover (List.forall_mem_cons.mpr ⟨⟨by decide, by decide, by decide, (gb_w5 180 rfl rfl), by decide, Or.inr ⟨3, by decide +kernel, rfl, rfl⟩⟩, fun _ h => nomatch h⟩) gb_oL gc_rk_L_cover
    (gc_hlk gb_nL hM (fun _ _ _ _ _ h => h) gf_398 gf_399 (fun _ _ h => h) gc_ck_L_cover) (t_L_cover_0 a b σ _ hq) rfl (fun _ _ _ _ h => h) (fun mid as S σ o h hg => (ge_at (ge_G mid as S σ) hg).trans h)
    (fun α mid as S σ k o h => (ge_G mid as S σ α k o h).elim fun o1 h1 => ⟨o1, h1.2⟩) gc_hoIXl (fun _ h => nomatch h) (fun v hv => by cases hv; exact Or.inl rfl) (Nat.le_of_ble_eq_true rfl) rfl
theorem gc_rk_L_supervise : cl_L_supervise.all (gb_rk gb_flL gb_slL gb_nlL gb_llL gb_tlL cL_supervise) = true := by decide +kernel
theorem gc_ck_L_supervise : cl_L_supervise.all (gc_ck gb_lkL gb_lnL [408] 7) = true := by decide +kernel
theorem gl_nn_L_supervise : cl_L_supervise.all gl_nn = true := by decide +kernel
theorem gl_439 (hl : l.stackTraces = false) (a : Int32) (b : Int32) (σ : ga_M) (x : Int32) (σ' : ga_M) (hq : f_L_supervise_0 a b σ = some (.inl x, σ')) : gb_C l D cA ad A adV yL_supervise (gb_wsW yL_supervise cL_supervise 4 (some .int) [(0, 6, 7, 31)]) 7 3 18 [.ref 0, .int a, .int b] gaSH σ (.inl (some (.int x)), gaSH, σ') := by
  have hM : ∀ mid ∈ ([408] : List Nat), gc_MM l D cA ad A adV mid := (List.forall_mem_cons.mpr ⟨gm_408 hl, fun _ h => nomatch h⟩)
  exact gl_met (y := yL_supervise) (own := RL) (cc := cL_supervise) (cl := cl_L_supervise) (g := gaG) (cost := gaCost) (maxL := 4) (wr := true) (PS := fun S _ => S = gaSH) (pc0 := 3) (Z := [((0, 6, 7, 31), (1, 8, 3))]) hl gl_pnL rfl gl_nn_L_supervise (List.forall_mem_cons.mpr ⟨⟨by decide, by decide, by decide, (gb_w5 180 rfl rfl), by decide, Or.inr ⟨3, by decide +kernel, rfl, rfl⟩⟩, fun _ h => nomatch h⟩) gb_oL gc_rk_L_supervise
    (gc_hlk gb_nL hM (fun _ _ _ _ _ h => h) gf_398 gf_399 (fun _ _ h => h) gc_ck_L_supervise) (t_L_supervise_0 a b σ _ hq) rfl (fun _ _ _ _ h => h) (fun mid as S σ o h hg => (ge_at (ge_G mid as S σ) hg).trans h)
    (fun α mid as S σ k o h => (ge_G mid as S σ α k o h).elim fun o1 h1 => ⟨o1, h1.2⟩) gc_hoIXl (fun _ h => nomatch h) (fun v hv => by cases hv; exact Or.inl rfl) (Nat.le_of_ble_eq_true rfl) rfl
theorem gc_rk_L_repair : cl_L_repair.all (gb_rk gb_flL gb_slL gb_nlL gb_llL gb_tlL cL_repair) = true := by decide +kernel
theorem gc_ck_L_repair : cl_L_repair.all (gc_ck gb_lkL gb_lnL [409] 7) = true := by decide +kernel
theorem gl_nn_L_repair : cl_L_repair.all gl_nn = true := by decide +kernel
theorem gl_440 (hl : l.stackTraces = false) (a : Int32) (σ : ga_M) (x : Int32) (σ' : ga_M) (hq : f_L_repair_0 a σ = some (.inl x, σ')) : gb_C l D cA ad A adV yL_repair (gb_wsW yL_repair cL_repair 3 (some .int) [(0, 5, 6, 31)]) 7 2 12 [.ref 0, .int a] gaSH σ (.inl (some (.int x)), gaSH, σ') := by
  have hM : ∀ mid ∈ ([409] : List Nat), gc_MM l D cA ad A adV mid := (List.forall_mem_cons.mpr ⟨gm_409 hl, fun _ h => nomatch h⟩)
  exact gl_met (y := yL_repair) (own := RL) (cc := cL_repair) (cl := cl_L_repair) (g := gaG) (cost := gaCost) (maxL := 3) (wr := true) (PS := fun S _ => S = gaSH) (pc0 := 2) (Z := [((0, 5, 6, 31), (1, 7, 2))]) hl gl_pnL rfl gl_nn_L_repair (List.forall_mem_cons.mpr ⟨⟨by decide, by decide, by decide, (gb_w5 180 rfl rfl), by decide, Or.inr ⟨2, by decide +kernel, rfl, rfl⟩⟩, fun _ h => nomatch h⟩) gb_oL gc_rk_L_repair
    (gc_hlk gb_nL hM (fun _ _ _ _ _ h => h) gf_398 gf_399 (fun _ _ h => h) gc_ck_L_repair) (t_L_repair_0 a σ _ hq) rfl (fun _ _ _ _ h => h) (fun mid as S σ o h hg => (ge_at (ge_G mid as S σ) hg).trans h)
    (fun α mid as S σ k o h => (ge_G mid as S σ α k o h).elim fun o1 h1 => ⟨o1, h1.2⟩) gc_hoIXl (fun _ h => nomatch h) (fun v hv => by cases hv; exact Or.inl rfl) (Nat.le_of_ble_eq_true rfl) rfl
theorem gc_rk_L_exchange : cl_L_exchange.all (gb_rk gb_flL gb_slL gb_nlL gb_llL gb_tlL cL_exchange) = true := by decide +kernel
theorem gc_ck_L_exchange : cl_L_exchange.all (gc_ck gb_lkL gb_lnL [410] 7) = true := by decide +kernel
theorem gl_nn_L_exchange : cl_L_exchange.all gl_nn = true := by decide +kernel
theorem gl_441 (hl : l.stackTraces = false) (a : Int32) (b : Int32) (σ : ga_M) (x : Int32) (σ' : ga_M) (hq : f_L_exchange_0 a b σ = some (.inl x, σ')) : gb_C l D cA ad A adV yL_exchange (gb_wsW yL_exchange cL_exchange 4 (some .int) [(0, 6, 7, 31)]) 7 3 18 [.ref 0, .int a, .int b] gaSH σ (.inl (some (.int x)), gaSH, σ') := by
  have hM : ∀ mid ∈ ([410] : List Nat), gc_MM l D cA ad A adV mid := (List.forall_mem_cons.mpr ⟨gm_410 hl, fun _ h => nomatch h⟩)
  exact gl_met (y := yL_exchange) (own := RL) (cc := cL_exchange) (cl := cl_L_exchange) (g := gaG) (cost := gaCost) (maxL := 4) (wr := true) (PS := fun S _ => S = gaSH) (pc0 := 3) (Z := [((0, 6, 7, 31), (1, 8, 3))]) hl gl_pnL rfl gl_nn_L_exchange (List.forall_mem_cons.mpr ⟨⟨by decide, by decide, by decide, (gb_w5 180 rfl rfl), by decide, Or.inr ⟨3, by decide +kernel, rfl, rfl⟩⟩, fun _ h => nomatch h⟩) gb_oL gc_rk_L_exchange
    (gc_hlk gb_nL hM (fun _ _ _ _ _ h => h) gf_398 gf_399 (fun _ _ h => h) gc_ck_L_exchange) (t_L_exchange_0 a b σ _ hq) rfl (fun _ _ _ _ h => h) (fun mid as S σ o h hg => (ge_at (ge_G mid as S σ) hg).trans h)
    (fun α mid as S σ k o h => (ge_G mid as S σ α k o h).elim fun o1 h1 => ⟨o1, h1.2⟩) gc_hoIXl (fun _ h => nomatch h) (fun v hv => by cases hv; exact Or.inl rfl) (Nat.le_of_ble_eq_true rfl) rfl
theorem gc_rk_L_move : cl_L_move.all (gb_rk gb_flL gb_slL gb_nlL gb_llL gb_tlL cL_move) = true := by decide +kernel
theorem gc_ck_L_move : cl_L_move.all (gc_ck gb_lkL gb_lnL [412] 7) = true := by decide +kernel
theorem gl_nn_L_move : cl_L_move.all gl_nn = true := by decide +kernel
theorem gl_442 (hl : l.stackTraces = false) (a : Int32) (b : Int32) (σ : ga_M) (x : Int32) (σ' : ga_M) (hq : f_L_move_0 a b σ = some (.inl x, σ')) : gb_C l D cA ad A adV yL_move (gb_wsW yL_move cL_move 4 (some .int) [(0, 6, 7, 31)]) 7 3 18 [.ref 0, .int a, .int b] gaSH σ (.inl (some (.int x)), gaSH, σ') := by
  have hM : ∀ mid ∈ ([412] : List Nat), gc_MM l D cA ad A adV mid := (List.forall_mem_cons.mpr ⟨gm_412 hl, fun _ h => nomatch h⟩)
  exact gl_met (y := yL_move) (own := RL) (cc := cL_move) (cl := cl_L_move) (g := gaG) (cost := gaCost) (maxL := 4) (wr := true) (PS := fun S _ => S = gaSH) (pc0 := 3) (Z := [((0, 6, 7, 31), (1, 8, 3))]) hl gl_pnL rfl gl_nn_L_move (List.forall_mem_cons.mpr ⟨⟨by decide, by decide, by decide, (gb_w5 180 rfl rfl), by decide, Or.inr ⟨3, by decide +kernel, rfl, rfl⟩⟩, fun _ h => nomatch h⟩) gb_oL gc_rk_L_move
    (gc_hlk gb_nL hM (fun _ _ _ _ _ h => h) gf_398 gf_399 (fun _ _ h => h) gc_ck_L_move) (t_L_move_0 a b σ _ hq) rfl (fun _ _ _ _ h => h) (fun mid as S σ o h hg => (ge_at (ge_G mid as S σ) hg).trans h)
    (fun α mid as S σ k o h => (ge_G mid as S σ α k o h).elim fun o1 h1 => ⟨o1, h1.2⟩) gc_hoIXl (fun _ h => nomatch h) (fun v hv => by cases hv; exact Or.inl rfl) (Nat.le_of_ble_eq_true rfl) rfl
theorem gc_rk_L_setRoom : cl_L_setRoom.all (gb_rk gb_flL gb_slL gb_nlL gb_llL gb_tlL cL_setRoom) = true := by decide +kernel
theorem gc_ck_L_setRoom : cl_L_setRoom.all (gc_ck gb_lkL gb_lnL [414] 7) = true := by decide +kernel
theorem gl_nn_L_setRoom : cl_L_setRoom.all gl_nn = true := by decide +kernel
theorem gl_443 (hl : l.stackTraces = false) (a : Int32) (b : Int32) (σ : ga_M) (x : Int32) (σ' : ga_M) (hq : f_L_setRoom_0 a b σ = some (.inl x, σ')) : gb_C l D cA ad A adV yL_setRoom (gb_wsW yL_setRoom cL_setRoom 4 (some .int) [(0, 6, 7, 31)]) 7 3 18 [.ref 0, .int a, .int b] gaSH σ (.inl (some (.int x)), gaSH, σ') := by
  have hM : ∀ mid ∈ ([414] : List Nat), gc_MM l D cA ad A adV mid := (List.forall_mem_cons.mpr ⟨gm_414 hl, fun _ h => nomatch h⟩)
  exact gl_met (y := yL_setRoom) (own := RL) (cc := cL_setRoom) (cl := cl_L_setRoom) (g := gaG) (cost := gaCost) (maxL := 4) (wr := true) (PS := fun S _ => S = gaSH) (pc0 := 3) (Z := [((0, 6, 7, 31), (1, 8, 3))]) hl gl_pnL rfl gl_nn_L_setRoom (List.forall_mem_cons.mpr ⟨⟨by decide, by decide, by decide, (gb_w5 180 rfl rfl), by decide, Or.inr ⟨3, by decide +kernel, rfl, rfl⟩⟩, fun _ h => nomatch h⟩) gb_oL gc_rk_L_setRoom
    (gc_hlk gb_nL hM (fun _ _ _ _ _ h => h) gf_398 gf_399 (fun _ _ h => h) gc_ck_L_setRoom) (t_L_setRoom_0 a b σ _ hq) rfl (fun _ _ _ _ h => h) (fun mid as S σ o h hg => (ge_at (ge_G mid as S σ) hg).trans h)
    (fun α mid as S σ k o h => (ge_G mid as S σ α k o h).elim fun o1 h1 => ⟨o1, h1.2⟩) gc_hoIXl (fun _ h => nomatch h) (fun v hv => by cases hv; exact Or.inl rfl) (Nat.le_of_ble_eq_true rfl) rfl
theorem gc_rk_L_reopen : cl_L_reopen.all (gb_rk gb_flL gb_slL gb_nlL gb_llL gb_tlL cL_reopen) = true := by decide +kernel
theorem gc_ck_L_reopen : cl_L_reopen.all (gc_ck gb_lkL gb_lnL [415] 7) = true := by decide +kernel
theorem gl_nn_L_reopen : cl_L_reopen.all gl_nn = true := by decide +kernel
theorem gl_444 (hl : l.stackTraces = false) (a : Int32) (σ : ga_M) (x : Int32) (σ' : ga_M) (hq : f_L_reopen_0 a σ = some (.inl x, σ')) : gb_C l D cA ad A adV yL_reopen (gb_wsW yL_reopen cL_reopen 3 (some .int) [(0, 5, 6, 31)]) 7 2 12 [.ref 0, .int a] gaSH σ (.inl (some (.int x)), gaSH, σ') := by
  have hM : ∀ mid ∈ ([415] : List Nat), gc_MM l D cA ad A adV mid := (List.forall_mem_cons.mpr ⟨gm_415 hl, fun _ h => nomatch h⟩)
  exact gl_met (y := yL_reopen) (own := RL) (cc := cL_reopen) (cl := cl_L_reopen) (g := gaG) (cost := gaCost) (maxL := 3) (wr := true) (PS := fun S _ => S = gaSH) (pc0 := 2) (Z := [((0, 5, 6, 31), (1, 7, 2))]) hl gl_pnL rfl gl_nn_L_reopen (List.forall_mem_cons.mpr ⟨⟨by decide, by decide, by decide, (gb_w5 180 rfl rfl), by decide, Or.inr ⟨2, by decide +kernel, rfl, rfl⟩⟩, fun _ h => nomatch h⟩) gb_oL gc_rk_L_reopen
    (gc_hlk gb_nL hM (fun _ _ _ _ _ h => h) gf_398 gf_399 (fun _ _ h => h) gc_ck_L_reopen) (t_L_reopen_0 a σ _ hq) rfl (fun _ _ _ _ h => h) (fun mid as S σ o h hg => (ge_at (ge_G mid as S σ) hg).trans h)
    (fun α mid as S σ k o h => (ge_G mid as S σ α k o h).elim fun o1 h1 => ⟨o1, h1.2⟩) gc_hoIXl (fun _ h => nomatch h) (fun v hv => by cases hv; exact Or.inl rfl) (Nat.le_of_ble_eq_true rfl) rfl
end GL1
end
