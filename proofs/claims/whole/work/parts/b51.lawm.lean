noncomputable section
section GL0
/-! ===== the law's own methods: each calls one of the class's and catches what it throws ===== -/
def gl_nn (q : Nat × ga_E) : Bool := match q.2.1 with
  | .new _ => false
  | _ => true
def gl_hn (pc0 : Nat) (Z : List ((Nat × Nat × Nat × Nat) × (Nat × Nat × Nat))) : Nat → ga_H := fun pc => bif Nat.beq pc pc0 then Z.map (fun z => z.2) else []
/-- a handler's row in the table, and where the small machine goes on -/
def gl_p (own : String) (cc : ByteArray) (maxL pc0 : Nat) (z : (Nat × Nat × Nat × Nat) × (Nat × Nat × Nat)) : Prop :=
  covers ⟨z.1.1, z.1.2.1, z.1.2.2.1, z.1.2.2.2⟩ pc0 = true ∧ z.1.2.2.2 ≠ 0 ∧ z.2.1 ∈ ([1, 2, 3, 4] : List Nat) ∧ Cond.classLink own z.1.2.2.2 (gb_exn z.2.1) ∈ gb_good ∧ z.2.2.2 < maxL ∧
  ((decode cc z.1.2.2.1 = .ok (.astore z.2.2.2, 2) ∧ z.2.2.1 = z.1.2.2.1 + 2) ∨ ∃ k : Fin 4, decode cc z.1.2.2.1 = .ok (.astore_n k, 1) ∧ (k : Nat) = z.2.2.2 ∧ z.2.2.1 = z.1.2.2.1 + 1)
theorem gl_cm : ∀ a ∈ ([1, 2, 3, 4] : List Nat), Cond.castable (gb_exn a) (gb_exn a) ∈ gb_oth := by decide +kernel
theorem gl_nc : ∀ a ∈ ([1, 2, 3, 4] : List Nat), ∀ b ∈ ([1, 2, 3, 4] : List Nat), a ≠ b → (gb_exn a, gb_exn b) ∈ gb_nc := by decide +kernel
theorem gl_ws_good {y : MethodName} {cc : ByteArray} {n : Nat} {r : Option FieldType} {hh : List (Nat × Nat × Nat × Nat)} : ∀ w ∈ gb_good, w ∈ gb_wsW y cc n r hh := fun _ h => List.mem_cons_of_mem _ h
theorem gl_L {ad : Nat → Nat} {ls ls' : Array Slot} {nL i : Nat} {L : ga_Lo} {x : Value} (hf : ga_lf true L) (hL : ga_L ad ls nL L) (h : lv_has ls' nL ((i, x) :: (ga_lp ad L).filter (fun q => !(q.1 == i) && !(q.1 + 1 == i && q.2.category == 2)))) : ga_L ad ls' nL (L.set i none) := by
  refine ⟨by rw [List.length_set]; exact hL.1, h.1, h.2.1, fun j w hj => ?_⟩
  by_cases e : j = i
  · subst e
    have hlt := (List.getElem?_eq_some_iff.mp hj).1
    rw [List.length_set] at hlt
    rw [List.getElem?_set_self hlt] at hj
    cases hj
  · rw [List.getElem?_set_ne (Ne.symm e)] at hj
    refine h.2.2 (j, ga_v ad w) (List.mem_cons_of_mem _ (List.mem_filter.mpr ⟨ga_lp_mem hj, ?_⟩))
    have h2 : ¬ w.category = 2 := hf rfl j w hj
    simp only [ga_v_cat]
    simp only [Bool.and_eq_true, Bool.not_eq_true', beq_eq_false_iff_ne, Bool.and_eq_false_imp, beq_iff_eq]
    exact ⟨e, fun _ z2 => h2 z2⟩
variable {p : Program} {l : Launch} {e : Env} {R : Room} {s : State} {m : MethodId} {args : Array Value} {below : List Frame} {meth : Method} {c : Code} {Q : State → Prop}
variable {D : va_G} {cA : Nat → ClassId} {ad : Nat → Nat} {A : Nat → Prop} {adV : Nat → Nat}
theorem gl_catOk {cc : ByteArray} {own : String} {maxL pc0 : Nat} {Z : List ((Nat × Nat × Nat × Nat) × (Nat × Nat × Nat))} (hx : p.tables.exec = Jvm.exec) (hb : c.code = cc) (hml : c.maxLocals = maxL) (hown : s.vm.findClass own = some m.cls) (htab : c.exceptionTable.toList = tableOf (Z.map fun z => z.1))
    (hZ : ∀ z ∈ Z, gl_p own cc maxL pc0 z) (hgood : ∀ w ∈ gb_good, w.before args s = true) (hE : gb_E D cA ad A adV s s.heap) : ga_CatOk p l e R s m args below meth c Q D cA ad A (gl_hn pc0 Z) 83 true gb_exn 0 0 := by
  intro pc E pre h suf hh st L S σ kc ks H locs ls q ce hNF hf hI hL hce hcv hcl hk
  obtain ⟨h1, h2, h3⟩ := hh
  have h1 : (bif Nat.beq pc pc0 then Z.map (fun z => z.2) else []) = pre ++ h :: suf := h1
  cases hb9 : Nat.beq pc pc0 with
  | false =>
    rw [hb9] at h1
    have := congrArg List.length h1
    simp at this
  | true =>
    rw [hb9] at h1
    have h8 : Z.map (fun z => z.2) = pre ++ h :: suf := h1
    clear h1
    obtain rfl := Nat.eq_of_beq_eq_true hb9
    obtain ⟨Zp, Zr, rfl, hp, hr⟩ := List.map_eq_append_iff.mp h8
    obtain ⟨z, Zs, rfl, hz, hs⟩ := List.map_eq_cons_iff.mp hr
    subst hz
    subst h3
    obtain ⟨g1, g2, g3, g4, g5, g6⟩ := hZ z (List.mem_append_right _ List.mem_cons_self)
    have hsplit : c.exceptionTable.toList = tableOf (Zp.map fun z => z.1) ++ ⟨z.1.1, z.1.2.1, z.1.2.2.1, z.1.2.2.2⟩ :: tableOf (Zs.map fun z => z.1) := by
      rw [htab]; simp [tableOf]
    refine vx_catch hown _ _ _ hsplit (fun x hx9 => ?_) g1 g2 (hgood _ g4) (va_Nw.use rfl (hE.2.2.2.1 _ (gl_cm _ g3))) hce hcv hcl ?_
    · obtain ⟨y, hy, rfl⟩ := List.mem_map.mp hx9
      obtain ⟨z9, hz9, rfl⟩ := List.mem_map.mp hy
      obtain ⟨k1, k2, k3, k4, k5, k6⟩ := hZ z9 (List.mem_append_left _ hz9)
      have hne := h2 z9.2 (by rw [← hp]; exact List.mem_map.mpr ⟨z9, hz9, rfl⟩)
      exact Or.inr ⟨k2, gb_exn z9.2.1, hgood _ k4, hE.2.2.2.2.1 _ (gl_nc _ g3 _ k3 hne)⟩
    · rcases g6 with ⟨d1, d2⟩ | ⟨k, d1, d2, d3⟩
      · refine lv_astore hx hb d1 hL.has (by rw [hml]; exact g5) rfl (fun ls' h' => ?_)
        have := hk ls' (gl_L hf hL h')
        rw [d2] at this
        exact this
      · refine lv_astore_n hx hb d1 d2 hL.has (by rw [hml]; exact g5) rfl (fun ls' h' => ?_)
        have := hk ls' (gl_L hf hL h')
        rw [d3] at this
        exact this
end GL0
section GL1
variable {l : Launch} {D : va_G} {cA : Nat → ClassId} {ad : Nat → Nat} {A : Nat → Prop} {adV : Nat → Nat}
/-- a method's contract, out of its run -/
theorem gl_met {y : MethodName} {own : String} {cc : ByteArray} {cl : List (Nat × ga_E)} {g : ga_G} {cost : Nat → Nat × Nat} {maxL lev mc ms : Nat} {ret : Option FieldType} {wr : Bool} {PS : ga_S → ga_M → Prop} {as : List Value} {S : ga_S} {σ : ga_M} {r : (Int32 ⊕ Nat) × ga_M} {o : ga_O} {pc0 : Nat} {Z : List ((Nat × Nat × Nat × Nat) × (Nat × Nat × Nat))}
    {fl : List (Nat × Nat × Nat)} {sl : List (Nat × Nat)} {nl ll : List (Nat × Int32)} {tl : List (Nat × Nat × Nat)}
    (hl : l.stackTraces = false) (hy : plainName y.cls = true) (hyo : y.cls = own) (hnw : cl.all gl_nn = true) (hZ : ∀ z ∈ Z, gl_p own cc maxL pc0 z) (hown : gb_Own own fl sl nl ll tl) (hck : cl.all (gb_rk fl sl nl ll tl cc) = true)
    (hlk : ∀ q ∈ cl, ((∃ i, q.2.1 = .invokevirtual i) ∨ (∃ i, q.2.1 = .invokestatic i) ∨ (∃ i, q.2.1 = .invokespecial i) ∧ q.2.2.2.1 ≠ 0) → (∀ as S σ, g ga_O q.2.2.2.1 as S σ some = none) ∨ gb_LkM g own q.2.1 q.2.2.2.1 q.2.2.2.2.1 ∨ gb_Lk l D cA ad A adV g cost PS own lev q.2.1 q.2.2.2.1 q.2.2.2.2.1 q.2.2.2.2.2)
    (hT : ga_T own cc (ga_lk cl) g cost (gl_hn pc0 Z) gaCls 83 mc ms false true wr none PS ga_kIX (0, gb_L0 as maxL, [], S, σ, 0, 0) r)
    (hPS : PS S σ) (hwr : wr = true → ∀ S σ σ1, PS S σ → PS S σ1)
    (hg1 : ∀ mid as S σ o, PS S σ → g ga_O mid as S σ some = some o → PS o.2.1 o.2.2) (hg2 : ∀ (α : Type) mid as S σ (k : ga_O → Option α) o, g α mid as S σ k = some o → ∃ o1, g ga_O mid as S σ some = some o1 ∧ k o1 = some o)
    (ho : ∀ o', ga_kIX o' = some r → PS o'.2.1 o'.2.2 → o' = o) (hof : ∀ E, o.1 ≠ .inr E) (hrt : ∀ v, o.1 = .inl v → gb_rt ret v)
    (hn : (gb_fl as).length ≤ maxL) (hlf : (!true || as.all fun v => v.category == 1) = true) :
    gb_C l D cA ad A adV y (gb_wsW y cc maxL ret (Z.map fun z => z.1)) lev mc ms as S σ o := by
  refine vx_ofWH (cc := cc) (maxL := maxL) (ret := ret) (hh := Z.map fun z => z.1) hy rfl ?_
  intro p e s m args below meth c s₁ B hml hPc
  obtain ⟨rfl, hP, hE⟩ := hPc
  have hx := B.exec
  have hb := B.bytes
  have hr := B.returns
  have hts := atoms_spec (ws := gb_wsW y cc maxL ret (Z.map fun (z : ((Nat × Nat × Nat × Nat) × (Nat × Nat × Nat))) => z.1)) B.pre
  have htab : c.exceptionTable.toList = tableOf (Z.map fun z => z.1) := vx_table (x := y) B (hts _ List.mem_cons_self)
  have hcls : s.vm.findClass own = some m.cls := hyo ▸ findClass_of_methodNamed B.named
  have hlocks : meth.locks = false := B.notSynchronized
  have hS : va_S A s.heap s.heap [] := va_S.rf
  have hgood : ∀ w ∈ gb_good, w.before (as.map (ga_v ad)).toArray s = true := fun w h => hts w (gl_ws_good w h)
  have hrow : ∀ pc r, ga_lk cl pc = some r → gb_rk fl sl nl ll tl cc (pc, r) = true := fun pc r h => List.all_eq_true.mp hck _ (gb_lk_mem h)
  have hdec : ∀ pc ins len r1 r2 sw, ga_lk cl pc = some (ins, len, r1, r2, sw) → decode cc pc = .ok (ins, len) ∧ ga_chk pc ins len r1 sw = true := by
    intro pc ins len r1 r2 sw h
    obtain ⟨h1, h2⟩ := Bool.and_eq_true_iff.mp (hrow _ _ h)
    exact ⟨of_decide_eq_true h1, (Bool.and_eq_true_iff.mp h2).1⟩
  have hfg : ∀ pc r idx ci k, ga_lk cl pc = some r → (fl.any fun z => z.1 == idx && z.2.1 == ci && z.2.2 == k) = true → ga_Fd own (as.map (ga_v ad)).toArray s (gb_wsW y cc maxL ret (Z.map fun z => z.1)) idx ci k ∨ ga_Fg own (as.map (ga_v ad)).toArray s (gb_wsW y cc maxL ret (Z.map fun z => z.1)) idx ci k := by
    intro pc r idx ci k _ h
    obtain ⟨C, T, N, ty, h1, h2, h3, h4, h5, h6, h7⟩ := hown.1 _ (gb_any3 h)
    exact Or.inr ⟨C, T, N, h1, h2, hgood _ h3, fun w hw => gl_ws_good w (h4 w hw)⟩
  have hfd : ∀ idx ci k, (fl.any fun z => z.1 == idx && z.2.1 == ci && z.2.2 == k) = true → (∀ q, vwCl[ci]? = some q → (q.2.1 k).2.2.2 = false) → ga_Fd own (as.map (ga_v ad)).toArray s (gb_wsW y cc maxL ret (Z.map fun z => z.1)) idx ci k := by
    intro idx ci k h hfin
    obtain ⟨C, T, N, ty, h1, h2, h3, h4, h5, h6, h7⟩ := hown.1 _ (gb_any3 h)
    exact ⟨C, T, N, ty, h1, h2, hgood _ h3, fun w hw => gl_ws_good w (h4 w hw), h5, h6, h7, fun h8 => by rw [hfin _ h1] at h8; cases h8⟩
  have hn1 : ∀ pc idx len r1 r2 sw, ga_lk cl pc = some (.new idx, len, r1, r2, sw) → 1000 ≤ r1 := fun pc idx len r1 r2 sw h => of_decide_eq_true (Bool.and_eq_true_iff.mp (Bool.and_eq_true_iff.mp (Bool.and_eq_true_iff.mp (hrow _ _ h)).2).2).1
  have hn2 : ∀ pc at' len r1 r2 sw, ga_lk cl pc ≠ some (.newarray at', len, r1, r2, sw) := fun pc at' len r1 r2 sw h => by
    have h1 := (Bool.and_eq_true_iff.mp (Bool.and_eq_true_iff.mp (hrow _ _ h)).2).2
    cases h1
  have ok : ga_Ok p l e (gb_rm lev mc ms) s m (as.map (ga_v ad)).toArray below meth c (vx_MQ below (gb_Qc D cA ad A o) (gb_XC D cA ad A o) (as.map (ga_v ad)).toArray s mc ms A) cc own (gb_wsW y cc maxL ret (Z.map fun z => z.1)) D cA ad A (ga_lk cl) g cost (gl_hn pc0 Z) gaCls 83 mc ms false true wr none gb_exn 0 0 (fun o' => o' = o) PS := by
    refine ⟨hx, hb, hcls, hts, hE.1, hE.2.2.2.2.2.2.2.2.2.1, hE.2.2.2.2.2.2.2.2.2.2, ⟨by simp [gb_rm], by simp [gb_rm], by simp only [gb_rm]; omega, by simp only [gb_rm]; omega⟩, (fun h => by cases h), (fun q h => by cases h), hdec, ?_, ?_, ?_, ?_, ?_, ⟨?_, ?_⟩, ?_, ⟨Or.inr ⟨Or.inr ⟨hn1, hn2⟩, rfl⟩, hwr, hg1, hg2⟩, ?_, ?_, ?_, gl_catOk hx hb hml hcls htab hZ hgood hE, gb_retOk hx hb hr hlocks hrt⟩
    · intro pc idx len r1 r2 sw h
      have h1 := (Bool.and_eq_true_iff.mp (Bool.and_eq_true_iff.mp (hrow _ _ h)).2).2
      obtain ⟨C, T, N, ty, h1, h2, h3, h4, h5, h6, h7⟩ := hown.1 _ (gb_any3 h1)
      exact ⟨C, T, N, h1, h2, hgood _ h3, fun w hw => gl_ws_good w (h4 w hw)⟩
    · intro pc idx len r1 r2 sw h
      have h1 := (Bool.and_eq_true_iff.mp (Bool.and_eq_true_iff.mp (hrow _ _ h)).2).2
      obtain ⟨h2, h3⟩ := Bool.and_eq_true_iff.mp h1
      obtain ⟨h4, h5⟩ := Bool.and_eq_true_iff.mp h2
      have h4 : sw.isEmpty = true := h4
      have hfin : ∀ q, vwCl[r1]? = some q → (q.2.1 r2).2.2.2 = false := by
        intro q hq
        dsimp only at h3
        rw [hq] at h3
        simpa using h3
      exact ⟨hfd idx r1 r2 h5 hfin, fun q hq => by rw [hfin q hq, h4]; rfl⟩
    · intro pc idx len r1 r2 sw h h9
      have h1 := (Bool.and_eq_true_iff.mp (Bool.and_eq_true_iff.mp (hrow _ _ h)).2).2
      have h2 := of_decide_eq_true (Bool.and_eq_true_iff.mp h1).1
      exact absurd h2 (by show ¬ 1000 ≤ r1; omega)
    · intro pc at' len r1 r2 sw h
      have h1 := (Bool.and_eq_true_iff.mp (Bool.and_eq_true_iff.mp (hrow _ _ h)).2).2
      cases h1
    · intro pc idx len r2 sw h
      have h1 := (Bool.and_eq_true_iff.mp (Bool.and_eq_true_iff.mp (hrow _ _ h)).2).2
      cases h1
    · intro pc idx len r1 r2 h
      have key : ∃ r, ga_lk cl pc = some r ∧ (decide (1000 ≤ r1) && sl.any fun z => z.1 == idx && z.2 == r1 - 1000) = true := by
        rcases h with h | h
        · exact ⟨_, h, (Bool.and_eq_true_iff.mp (Bool.and_eq_true_iff.mp (hrow _ _ h)).2).2⟩
        · exact ⟨_, h, (Bool.and_eq_true_iff.mp (Bool.and_eq_true_iff.mp (hrow _ _ h)).2).2⟩
      obtain ⟨_, _, h1⟩ := key
      obtain ⟨h2, h3⟩ := Bool.and_eq_true_iff.mp h1
      have h2 := of_decide_eq_true h2
      obtain ⟨tx, htx⟩ := hown.2.1 _ (gb_any2 h3)
      refine ⟨tx, ?_⟩
      have h5 := hE.2.1 _ htx
      have h5 : vk_R own idx tx (ad (1000 + (r1 - 1000))) s := h5
      rwa [show 1000 + (r1 - 1000) = r1 by omega] at h5
    · intro pc idx len r1 r2 q r' h
      have key : (nl.any fun w => w.1 == idx && w.2 == q.1) = true := by
        rcases h with h | h
        · exact (Bool.and_eq_true_iff.mp (Bool.and_eq_true_iff.mp (hrow _ _ h)).2).2
        · exact (Bool.and_eq_true_iff.mp (Bool.and_eq_true_iff.mp (hrow _ _ h)).2).2
      exact hgood _ (hown.2.2.1 _ (gb_anyi key))
    · intro pc idx len r1 r2 sw h
      have h1 := (Bool.and_eq_true_iff.mp (Bool.and_eq_true_iff.mp (hrow _ _ h)).2).2
      cases sw with
      | nil => cases h1
      | cons q r' => exact ⟨q, r', rfl, hgood _ (hown.2.2.2.1 _ (gb_anyi h1))⟩
    · refine gb_callOk (Nat.le_refl _) (Nat.le_refl _) (Nat.le_refl _) (Nat.le_refl _) hx hb hml hcls gl_ws_good hts hE hdec ?_
      intro pc ins len mid na sw h hi
      exact hlk _ (gb_lk_mem h) hi
    · intro pc idx len r1 r2 sw h
      have := List.all_eq_true.mp hnw _ (gb_lk_mem h)
      cases this
    · intro E S' σ' hΦ
      exact absurd (congrArg (fun z : ga_O => z.1) (show ((Sum.inr E, S', σ') : ga_O) = o from hΦ)).symm (hof E)
  have hW := hT p l e (gb_rm lev mc ms) s m (as.map (ga_v ad)).toArray below meth c (vx_MQ below (gb_Qc D cA ad A o) (gb_XC D cA ad A o) (as.map (ga_v ad)).toArray s mc ms A) (gb_wsW y cc maxL ret (Z.map fun z => z.1)) D cA ad A gb_exn 0 0 (fun o' => o' = o) ok ho (gb_L0_lf hlf) hPS (Nat.zero_le _) (Nat.zero_le _) s.heap []
  rw [lg_entry_eq]
  exact hW _ ⟨hP.1, hP.2.1, hS, hP.2.2⟩ (by rw [hml]; exact gb_L0_L hn)
theorem gl_pnL : plainName RL = true := by decide +kernel
theorem gl_nmL : gb_Nm RL := by unfold gb_Nm; decide +kernel
theorem gc_rk_L_appendText : cl_L_appendText.all (gb_rk gb_flL gb_slL gb_nlL gb_llL gb_tlL cL_appendText) = true := by decide +kernel
theorem gc_ck_L_appendText : cl_L_appendText.all (gc_ck gb_lkL gb_lnL [400] 3) = true := by decide +kernel
theorem gl_nn_L_appendText : cl_L_appendText.all gl_nn = true := by decide +kernel
theorem gl_445 (hl : l.stackTraces = false) (a : Int32) (b : Int32) (c : Int32) (d : Int32) (e : Int32) (σ : ga_M) (x : Int32) (σ' : ga_M) (hq : f_L_appendText_0_82 a b c d e σ = some (.inl x, σ')) : gb_C l D cA ad A adV yL_appendText (gb_wsW yL_appendText cL_appendText 8 (some .int) [(0, 16, 19, 13)]) 3 1 6 [.ref 0, .int a, .int b, .int c, .int d, .int e, .ref 82] gaSH σ (.inl (some (.int x)), gaSH, σ') := by
  have hM : ∀ mid ∈ ([400] : List Nat), gc_MM l D cA ad A adV mid := (List.forall_mem_cons.mpr ⟨gm_400 hl, fun _ h => nomatch h⟩)
  exact gl_met (y := yL_appendText) (own := RL) (cc := cL_appendText) (cl := cl_L_appendText) (g := gaG) (cost := gaCost) (maxL := 8) (wr := true) (PS := fun S _ => S = gaSH) (pc0 := 11) (Z := [((0, 16, 19, 13), (1, 21, 7))]) hl gl_pnL rfl gl_nn_L_appendText (List.forall_mem_cons.mpr ⟨⟨by decide, by decide, by decide, (gb_w5 6 rfl rfl), by decide, Or.inl ⟨by decide +kernel, rfl⟩⟩, fun _ h => nomatch h⟩) gb_oL gc_rk_L_appendText
    (gc_hlk gb_nL hM (fun _ _ _ _ _ h => h) gf_398 gf_399 (fun _ _ h => h) gc_ck_L_appendText) (t_L_appendText_0_82 a b c d e σ _ hq) rfl (fun _ _ _ _ h => h) (fun mid as S σ o h hg => (ge_at (ge_G mid as S σ) hg).trans h)
    (fun α mid as S σ k o h => (ge_G mid as S σ α k o h).elim fun o1 h1 => ⟨o1, h1.2⟩) gc_hoIXl (fun _ h => nomatch h) (fun v hv => by cases hv; exact Or.inl rfl) (Nat.le_of_ble_eq_true rfl) rfl
theorem gc_rk_L_truncateText : cl_L_truncateText.all (gb_rk gb_flL gb_slL gb_nlL gb_llL gb_tlL cL_truncateText) = true := by decide +kernel
theorem gc_ck_L_truncateText : cl_L_truncateText.all (gc_ck gb_lkL gb_lnL [401] 1) = true := by decide +kernel
theorem gl_nn_L_truncateText : cl_L_truncateText.all gl_nn = true := by decide +kernel
theorem gl_446 (hl : l.stackTraces = false) (a : Int32) (σ : ga_M) (x : Int32) (σ' : ga_M) (hq : f_L_truncateText_0_82 a σ = some (.inl x, σ')) : gb_C l D cA ad A adV yL_truncateText (gb_wsW yL_truncateText cL_truncateText 4 (some .int) [(0, 9, 12, 19)]) 1 1 6 [.ref 0, .int a, .ref 82] gaSH σ (.inl (some (.int x)), gaSH, σ') := by
  have hM : ∀ mid ∈ ([401] : List Nat), gc_MM l D cA ad A adV mid := (List.forall_mem_cons.mpr ⟨gm_401 hl, fun _ h => nomatch h⟩)
  exact gl_met (y := yL_truncateText) (own := RL) (cc := cL_truncateText) (cl := cl_L_truncateText) (g := gaG) (cost := gaCost) (maxL := 4) (wr := true) (PS := fun S _ => S = gaSH) (pc0 := 4) (Z := [((0, 9, 12, 19), (2, 13, 3))]) hl gl_pnL rfl gl_nn_L_truncateText (List.forall_mem_cons.mpr ⟨⟨by decide, by decide, by decide, (gb_w5 87 rfl rfl), by decide, Or.inr ⟨3, by decide +kernel, rfl, rfl⟩⟩, fun _ h => nomatch h⟩) gb_oL gc_rk_L_truncateText
    (gc_hlk gb_nL hM (fun _ _ _ _ _ h => h) gf_398 gf_399 (fun _ _ h => h) gc_ck_L_truncateText) (t_L_truncateText_0_82 a σ _ hq) rfl (fun _ _ _ _ h => h) (fun mid as S σ o h hg => (ge_at (ge_G mid as S σ) hg).trans h)
    (fun α mid as S σ k o h => (ge_G mid as S σ α k o h).elim fun o1 h1 => ⟨o1, h1.2⟩) gc_hoIXl (fun _ h => nomatch h) (fun v hv => by cases hv; exact Or.inl rfl) (Nat.le_of_ble_eq_true rfl) rfl
theorem gc_rk_L_setAbsent : cl_L_setAbsent.all (gb_rk gb_flL gb_slL gb_nlL gb_llL gb_tlL cL_setAbsent) = true := by decide +kernel
theorem gc_ck_L_setAbsent : cl_L_setAbsent.all (gc_ck gb_lkL gb_lnL [404] 4) = true := by decide +kernel
theorem gl_nn_L_setAbsent : cl_L_setAbsent.all gl_nn = true := by decide +kernel
theorem gl_447 (hl : l.stackTraces = false) (a : Int32) (b : Int32) (c : Int32) (σ : ga_M) (x : Int32) (σ' : ga_M) (hq : f_L_setAbsent_0_82 a b c σ = some (.inl x, σ')) : gb_C l D cA ad A adV yL_setAbsent (gb_wsW yL_setAbsent cL_setAbsent 6 (some .int) [(0, 12, 15, 25)]) 4 2 12 [.ref 0, .int a, .int b, .int c, .ref 82] gaSH σ (.inl (some (.int x)), gaSH, σ') := by
  have hM : ∀ mid ∈ ([404] : List Nat), gc_MM l D cA ad A adV mid := (List.forall_mem_cons.mpr ⟨gm_404 hl, fun _ h => nomatch h⟩)
  exact gl_met (y := yL_setAbsent) (own := RL) (cc := cL_setAbsent) (cl := cl_L_setAbsent) (g := gaG) (cost := gaCost) (maxL := 6) (wr := true) (PS := fun S _ => S = gaSH) (pc0 := 7) (Z := [((0, 12, 15, 25), (3, 17, 5))]) hl gl_pnL rfl gl_nn_L_setAbsent (List.forall_mem_cons.mpr ⟨⟨by decide, by decide, by decide, (gb_w5 111 rfl rfl), by decide, Or.inl ⟨by decide +kernel, rfl⟩⟩, fun _ h => nomatch h⟩) gb_oL gc_rk_L_setAbsent
    (gc_hlk gb_nL hM (fun _ _ _ _ _ h => h) gf_398 gf_399 (fun _ _ h => h) gc_ck_L_setAbsent) (t_L_setAbsent_0_82 a b c σ _ hq) rfl (fun _ _ _ _ h => h) (fun mid as S σ o h hg => (ge_at (ge_G mid as S σ) hg).trans h)
    (fun α mid as S σ k o h => (ge_G mid as S σ α k o h).elim fun o1 h1 => ⟨o1, h1.2⟩) gc_hoIXl (fun _ h => nomatch h) (fun v hv => by cases hv; exact Or.inl rfl) (Nat.le_of_ble_eq_true rfl) rfl
theorem gc_rk_L_cover : cl_L_cover.all (gb_rk gb_flL gb_slL gb_nlL gb_llL gb_tlL cL_cover) = true := by decide +kernel
theorem gc_ck_L_cover : cl_L_cover.all (gc_ck gb_lkL gb_lnL [407] 6) = true := by decide +kernel
theorem gl_nn_L_cover : cl_L_cover.all gl_nn = true := by decide +kernel
theorem gl_448 (hl : l.stackTraces = false) (a : Int32) (b : Int32) (σ : ga_M) (x : Int32) (σ' : ga_M) (hq : f_L_cover_0_82 a b σ = some (.inl x, σ')) : gb_C l D cA ad A adV yL_cover (gb_wsW yL_cover cL_cover 5 (some .int) [(0, 10, 13, 25), (0, 10, 17, 13)]) 6 3 18 [.ref 0, .int a, .int b, .ref 82] gaSH σ (.inl (some (.int x)), gaSH, σ') := by
  have hM : ∀ mid ∈ ([407] : List Nat), gc_MM l D cA ad A adV mid := (List.forall_mem_cons.mpr ⟨gm_407 hl, fun _ h => nomatch h⟩)
  exact gl_met (y := yL_cover) (own := RL) (cc := cL_cover) (cl := cl_L_cover) (g := gaG) (cost := gaCost) (maxL := 5) (wr := true) (PS := fun S _ => S = gaSH) (pc0 := 5) (Z := [((0, 10, 13, 25), (3, 15, 4)), ((0, 10, 17, 13), (1, 19, 4))]) hl gl_pnL rfl gl_nn_L_cover (List.forall_mem_cons.mpr ⟨⟨by decide, by decide, by decide, (gb_w5 111 rfl rfl), by decide, Or.inl ⟨by decide +kernel, rfl⟩⟩, List.forall_mem_cons.mpr ⟨⟨by decide, by decide, by decide, (gb_w5 6 rfl rfl), by decide, Or.inl ⟨by decide +kernel, rfl⟩⟩, fun _ h => nomatch h⟩⟩) gb_oL gc_rk_L_cover
    (gc_hlk gb_nL hM (fun _ _ _ _ _ h => h) gf_398 gf_399 (fun _ _ h => h) gc_ck_L_cover) (t_L_cover_0_82 a b σ _ hq) rfl (fun _ _ _ _ h => h) (fun mid as S σ o h hg => (ge_at (ge_G mid as S σ) hg).trans h)
    (fun α mid as S σ k o h => (ge_G mid as S σ α k o h).elim fun o1 h1 => ⟨o1, h1.2⟩) gc_hoIXl (fun _ h => nomatch h) (fun v hv => by cases hv; exact Or.inl rfl) (Nat.le_of_ble_eq_true rfl) rfl
theorem gc_rk_L_supervise : cl_L_supervise.all (gb_rk gb_flL gb_slL gb_nlL gb_llL gb_tlL cL_supervise) = true := by decide +kernel
theorem gc_ck_L_supervise : cl_L_supervise.all (gc_ck gb_lkL gb_lnL [408] 6) = true := by decide +kernel
theorem gl_nn_L_supervise : cl_L_supervise.all gl_nn = true := by decide +kernel
theorem gl_449 (hl : l.stackTraces = false) (a : Int32) (b : Int32) (σ : ga_M) (x : Int32) (σ' : ga_M) (hq : f_L_supervise_0_82 a b σ = some (.inl x, σ')) : gb_C l D cA ad A adV yL_supervise (gb_wsW yL_supervise cL_supervise 5 (some .int) [(0, 10, 13, 25), (0, 10, 17, 13)]) 6 3 18 [.ref 0, .int a, .int b, .ref 82] gaSH σ (.inl (some (.int x)), gaSH, σ') := by
  have hM : ∀ mid ∈ ([408] : List Nat), gc_MM l D cA ad A adV mid := (List.forall_mem_cons.mpr ⟨gm_408 hl, fun _ h => nomatch h⟩)
  exact gl_met (y := yL_supervise) (own := RL) (cc := cL_supervise) (cl := cl_L_supervise) (g := gaG) (cost := gaCost) (maxL := 5) (wr := true) (PS := fun S _ => S = gaSH) (pc0 := 5) (Z := [((0, 10, 13, 25), (3, 15, 4)), ((0, 10, 17, 13), (1, 19, 4))]) hl gl_pnL rfl gl_nn_L_supervise (List.forall_mem_cons.mpr ⟨⟨by decide, by decide, by decide, (gb_w5 111 rfl rfl), by decide, Or.inl ⟨by decide +kernel, rfl⟩⟩, List.forall_mem_cons.mpr ⟨⟨by decide, by decide, by decide, (gb_w5 6 rfl rfl), by decide, Or.inl ⟨by decide +kernel, rfl⟩⟩, fun _ h => nomatch h⟩⟩) gb_oL gc_rk_L_supervise
    (gc_hlk gb_nL hM (fun _ _ _ _ _ h => h) gf_398 gf_399 (fun _ _ h => h) gc_ck_L_supervise) (t_L_supervise_0_82 a b σ _ hq) rfl (fun _ _ _ _ h => h) (fun mid as S σ o h hg => (ge_at (ge_G mid as S σ) hg).trans h)
    (fun α mid as S σ k o h => (ge_G mid as S σ α k o h).elim fun o1 h1 => ⟨o1, h1.2⟩) gc_hoIXl (fun _ h => nomatch h) (fun v hv => by cases hv; exact Or.inl rfl) (Nat.le_of_ble_eq_true rfl) rfl
theorem gc_rk_L_repair : cl_L_repair.all (gb_rk gb_flL gb_slL gb_nlL gb_llL gb_tlL cL_repair) = true := by decide +kernel
theorem gc_ck_L_repair : cl_L_repair.all (gc_ck gb_lkL gb_lnL [409] 6) = true := by decide +kernel
theorem gl_nn_L_repair : cl_L_repair.all gl_nn = true := by decide +kernel
theorem gl_450 (hl : l.stackTraces = false) (a : Int32) (σ : ga_M) (x : Int32) (σ' : ga_M) (hq : f_L_repair_0_82 a σ = some (.inl x, σ')) : gb_C l D cA ad A adV yL_repair (gb_wsW yL_repair cL_repair 4 (some .int) [(0, 9, 12, 25), (0, 9, 15, 13)]) 6 2 12 [.ref 0, .int a, .ref 82] gaSH σ (.inl (some (.int x)), gaSH, σ') := by
  have hM : ∀ mid ∈ ([409] : List Nat), gc_MM l D cA ad A adV mid := (List.forall_mem_cons.mpr ⟨gm_409 hl, fun _ h => nomatch h⟩)
  exact gl_met (y := yL_repair) (own := RL) (cc := cL_repair) (cl := cl_L_repair) (g := gaG) (cost := gaCost) (maxL := 4) (wr := true) (PS := fun S _ => S = gaSH) (pc0 := 4) (Z := [((0, 9, 12, 25), (3, 13, 3)), ((0, 9, 15, 13), (1, 16, 3))]) hl gl_pnL rfl gl_nn_L_repair (List.forall_mem_cons.mpr ⟨⟨by decide, by decide, by decide, (gb_w5 111 rfl rfl), by decide, Or.inr ⟨3, by decide +kernel, rfl, rfl⟩⟩, List.forall_mem_cons.mpr ⟨⟨by decide, by decide, by decide, (gb_w5 6 rfl rfl), by decide, Or.inr ⟨3, by decide +kernel, rfl, rfl⟩⟩, fun _ h => nomatch h⟩⟩) gb_oL gc_rk_L_repair
    (gc_hlk gb_nL hM (fun _ _ _ _ _ h => h) gf_398 gf_399 (fun _ _ h => h) gc_ck_L_repair) (t_L_repair_0_82 a σ _ hq) rfl (fun _ _ _ _ h => h) (fun mid as S σ o h hg => (ge_at (ge_G mid as S σ) hg).trans h)
    (fun α mid as S σ k o h => (ge_G mid as S σ α k o h).elim fun o1 h1 => ⟨o1, h1.2⟩) gc_hoIXl (fun _ h => nomatch h) (fun v hv => by cases hv; exact Or.inl rfl) (Nat.le_of_ble_eq_true rfl) rfl
theorem gc_rk_L_exchange : cl_L_exchange.all (gb_rk gb_flL gb_slL gb_nlL gb_llL gb_tlL cL_exchange) = true := by decide +kernel
theorem gc_ck_L_exchange : cl_L_exchange.all (gc_ck gb_lkL gb_lnL [410] 7) = true := by decide +kernel
theorem gl_nn_L_exchange : cl_L_exchange.all gl_nn = true := by decide +kernel
theorem gl_451 (hl : l.stackTraces = false) (a : Int32) (b : Int32) (σ : ga_M) (x : Int32) (σ' : ga_M) (hq : f_L_exchange_0_82 a b σ = some (.inl x, σ')) : gb_C l D cA ad A adV yL_exchange (gb_wsW yL_exchange cL_exchange 5 (some .int) [(0, 10, 13, 25), (0, 10, 17, 13)]) 7 3 18 [.ref 0, .int a, .int b, .ref 82] gaSH σ (.inl (some (.int x)), gaSH, σ') := by
  have hM : ∀ mid ∈ ([410] : List Nat), gc_MM l D cA ad A adV mid := (List.forall_mem_cons.mpr ⟨gm_410 hl, fun _ h => nomatch h⟩)
  exact gl_met (y := yL_exchange) (own := RL) (cc := cL_exchange) (cl := cl_L_exchange) (g := gaG) (cost := gaCost) (maxL := 5) (wr := true) (PS := fun S _ => S = gaSH) (pc0 := 5) (Z := [((0, 10, 13, 25), (3, 15, 4)), ((0, 10, 17, 13), (1, 19, 4))]) hl gl_pnL rfl gl_nn_L_exchange (List.forall_mem_cons.mpr ⟨⟨by decide, by decide, by decide, (gb_w5 111 rfl rfl), by decide, Or.inl ⟨by decide +kernel, rfl⟩⟩, List.forall_mem_cons.mpr ⟨⟨by decide, by decide, by decide, (gb_w5 6 rfl rfl), by decide, Or.inl ⟨by decide +kernel, rfl⟩⟩, fun _ h => nomatch h⟩⟩) gb_oL gc_rk_L_exchange
    (gc_hlk gb_nL hM (fun _ _ _ _ _ h => h) gf_398 gf_399 (fun _ _ h => h) gc_ck_L_exchange) (t_L_exchange_0_82 a b σ _ hq) rfl (fun _ _ _ _ h => h) (fun mid as S σ o h hg => (ge_at (ge_G mid as S σ) hg).trans h)
    (fun α mid as S σ k o h => (ge_G mid as S σ α k o h).elim fun o1 h1 => ⟨o1, h1.2⟩) gc_hoIXl (fun _ h => nomatch h) (fun v hv => by cases hv; exact Or.inl rfl) (Nat.le_of_ble_eq_true rfl) rfl
theorem gc_rk_L_move : cl_L_move.all (gb_rk gb_flL gb_slL gb_nlL gb_llL gb_tlL cL_move) = true := by decide +kernel
theorem gc_ck_L_move : cl_L_move.all (gc_ck gb_lkL gb_lnL [412] 7) = true := by decide +kernel
theorem gl_nn_L_move : cl_L_move.all gl_nn = true := by decide +kernel
theorem gl_452 (hl : l.stackTraces = false) (a : Int32) (b : Int32) (σ : ga_M) (x : Int32) (σ' : ga_M) (hq : f_L_move_0_82 a b σ = some (.inl x, σ')) : gb_C l D cA ad A adV yL_move (gb_wsW yL_move cL_move 5 (some .int) [(0, 10, 13, 25), (0, 10, 17, 13)]) 7 3 18 [.ref 0, .int a, .int b, .ref 82] gaSH σ (.inl (some (.int x)), gaSH, σ') := by
  have hM : ∀ mid ∈ ([412] : List Nat), gc_MM l D cA ad A adV mid := (List.forall_mem_cons.mpr ⟨gm_412 hl, fun _ h => nomatch h⟩)
  exact gl_met (y := yL_move) (own := RL) (cc := cL_move) (cl := cl_L_move) (g := gaG) (cost := gaCost) (maxL := 5) (wr := true) (PS := fun S _ => S = gaSH) (pc0 := 5) (Z := [((0, 10, 13, 25), (3, 15, 4)), ((0, 10, 17, 13), (1, 19, 4))]) hl gl_pnL rfl gl_nn_L_move (List.forall_mem_cons.mpr ⟨⟨by decide, by decide, by decide, (gb_w5 111 rfl rfl), by decide, Or.inl ⟨by decide +kernel, rfl⟩⟩, List.forall_mem_cons.mpr ⟨⟨by decide, by decide, by decide, (gb_w5 6 rfl rfl), by decide, Or.inl ⟨by decide +kernel, rfl⟩⟩, fun _ h => nomatch h⟩⟩) gb_oL gc_rk_L_move
    (gc_hlk gb_nL hM (fun _ _ _ _ _ h => h) gf_398 gf_399 (fun _ _ h => h) gc_ck_L_move) (t_L_move_0_82 a b σ _ hq) rfl (fun _ _ _ _ h => h) (fun mid as S σ o h hg => (ge_at (ge_G mid as S σ) hg).trans h)
    (fun α mid as S σ k o h => (ge_G mid as S σ α k o h).elim fun o1 h1 => ⟨o1, h1.2⟩) gc_hoIXl (fun _ h => nomatch h) (fun v hv => by cases hv; exact Or.inl rfl) (Nat.le_of_ble_eq_true rfl) rfl
theorem gc_rk_L_setRoom : cl_L_setRoom.all (gb_rk gb_flL gb_slL gb_nlL gb_llL gb_tlL cL_setRoom) = true := by decide +kernel
theorem gc_ck_L_setRoom : cl_L_setRoom.all (gc_ck gb_lkL gb_lnL [414] 5) = true := by decide +kernel
theorem gl_nn_L_setRoom : cl_L_setRoom.all gl_nn = true := by decide +kernel
theorem gl_453 (hl : l.stackTraces = false) (a : Int32) (b : Int32) (σ : ga_M) (x : Int32) (σ' : ga_M) (hq : f_L_setRoom_0_82 a b σ = some (.inl x, σ')) : gb_C l D cA ad A adV yL_setRoom (gb_wsW yL_setRoom cL_setRoom 5 (some .int) [(0, 10, 13, 25), (0, 10, 17, 13)]) 5 3 18 [.ref 0, .int a, .int b, .ref 82] gaSH σ (.inl (some (.int x)), gaSH, σ') := by
  have hM : ∀ mid ∈ ([414] : List Nat), gc_MM l D cA ad A adV mid := (List.forall_mem_cons.mpr ⟨gm_414 hl, fun _ h => nomatch h⟩)
  exact gl_met (y := yL_setRoom) (own := RL) (cc := cL_setRoom) (cl := cl_L_setRoom) (g := gaG) (cost := gaCost) (maxL := 5) (wr := true) (PS := fun S _ => S = gaSH) (pc0 := 5) (Z := [((0, 10, 13, 25), (3, 15, 4)), ((0, 10, 17, 13), (1, 19, 4))]) hl gl_pnL rfl gl_nn_L_setRoom (List.forall_mem_cons.mpr ⟨⟨by decide, by decide, by decide, (gb_w5 111 rfl rfl), by decide, Or.inl ⟨by decide +kernel, rfl⟩⟩, List.forall_mem_cons.mpr ⟨⟨by decide, by decide, by decide, (gb_w5 6 rfl rfl), by decide, Or.inl ⟨by decide +kernel, rfl⟩⟩, fun _ h => nomatch h⟩⟩) gb_oL gc_rk_L_setRoom
    (gc_hlk gb_nL hM (fun _ _ _ _ _ h => h) gf_398 gf_399 (fun _ _ h => h) gc_ck_L_setRoom) (t_L_setRoom_0_82 a b σ _ hq) rfl (fun _ _ _ _ h => h) (fun mid as S σ o h hg => (ge_at (ge_G mid as S σ) hg).trans h)
    (fun α mid as S σ k o h => (ge_G mid as S σ α k o h).elim fun o1 h1 => ⟨o1, h1.2⟩) gc_hoIXl (fun _ h => nomatch h) (fun v hv => by cases hv; exact Or.inl rfl) (Nat.le_of_ble_eq_true rfl) rfl
theorem gc_rk_L_reopen : cl_L_reopen.all (gb_rk gb_flL gb_slL gb_nlL gb_llL gb_tlL cL_reopen) = true := by decide +kernel
theorem gc_ck_L_reopen : cl_L_reopen.all (gc_ck gb_lkL gb_lnL [415] 4) = true := by decide +kernel
theorem gl_nn_L_reopen : cl_L_reopen.all gl_nn = true := by decide +kernel
theorem gl_454 (hl : l.stackTraces = false) (a : Int32) (σ : ga_M) (x : Int32) (σ' : ga_M) (hq : f_L_reopen_0_82 a σ = some (.inl x, σ')) : gb_C l D cA ad A adV yL_reopen (gb_wsW yL_reopen cL_reopen 4 (some .int) [(0, 9, 12, 25), (0, 9, 15, 13)]) 4 2 12 [.ref 0, .int a, .ref 82] gaSH σ (.inl (some (.int x)), gaSH, σ') := by
  have hM : ∀ mid ∈ ([415] : List Nat), gc_MM l D cA ad A adV mid := (List.forall_mem_cons.mpr ⟨gm_415 hl, fun _ h => nomatch h⟩)
  exact gl_met (y := yL_reopen) (own := RL) (cc := cL_reopen) (cl := cl_L_reopen) (g := gaG) (cost := gaCost) (maxL := 4) (wr := true) (PS := fun S _ => S = gaSH) (pc0 := 4) (Z := [((0, 9, 12, 25), (3, 13, 3)), ((0, 9, 15, 13), (1, 16, 3))]) hl gl_pnL rfl gl_nn_L_reopen (List.forall_mem_cons.mpr ⟨⟨by decide, by decide, by decide, (gb_w5 111 rfl rfl), by decide, Or.inr ⟨3, by decide +kernel, rfl, rfl⟩⟩, List.forall_mem_cons.mpr ⟨⟨by decide, by decide, by decide, (gb_w5 6 rfl rfl), by decide, Or.inr ⟨3, by decide +kernel, rfl, rfl⟩⟩, fun _ h => nomatch h⟩⟩) gb_oL gc_rk_L_reopen
    (gc_hlk gb_nL hM (fun _ _ _ _ _ h => h) gf_398 gf_399 (fun _ _ h => h) gc_ck_L_reopen) (t_L_reopen_0_82 a σ _ hq) rfl (fun _ _ _ _ h => h) (fun mid as S σ o h hg => (ge_at (ge_G mid as S σ) hg).trans h)
    (fun α mid as S σ k o h => (ge_G mid as S σ α k o h).elim fun o1 h1 => ⟨o1, h1.2⟩) gc_hoIXl (fun _ h => nomatch h) (fun v hv => by cases hv; exact Or.inl rfl) (Nat.le_of_ble_eq_true rfl) rfl
theorem gc_rk_L_whyNotCover : cl_L_whyNotCover.all (gb_rk gb_flL gb_slL gb_nlL gb_llL gb_tlL cL_whyNotCover) = true := by decide +kernel
theorem gc_ck_L_whyNotCover : cl_L_whyNotCover.all (gc_ck gb_lkL gb_lnL [416] 5) = true := by decide +kernel
theorem gl_nn_L_whyNotCover : cl_L_whyNotCover.all gl_nn = true := by decide +kernel
theorem gl_455 (hl : l.stackTraces = false) (a : Int32) (b : Int32) (σ : ga_M) (x : Int32) (σ' : ga_M) (hq : f_L_whyNotCover_0_82 a b σ = some (.inl x, σ')) : gb_C l D cA ad A adV yL_whyNotCover (gb_wsW yL_whyNotCover cL_whyNotCover 5 (some .int) [(0, 10, 13, 25)]) 5 2 12 [.ref 0, .int a, .int b, .ref 82] gaSH σ (.inl (some (.int x)), gaSH, σ') := by
  have hM : ∀ mid ∈ ([416] : List Nat), gc_MM l D cA ad A adV mid := (List.forall_mem_cons.mpr ⟨gm_416 hl, fun _ h => nomatch h⟩)
  exact gl_met (y := yL_whyNotCover) (own := RL) (cc := cL_whyNotCover) (cl := cl_L_whyNotCover) (g := gaG) (cost := gaCost) (maxL := 5) (wr := true) (PS := fun S _ => S = gaSH) (pc0 := 5) (Z := [((0, 10, 13, 25), (3, 15, 4))]) hl gl_pnL rfl gl_nn_L_whyNotCover (List.forall_mem_cons.mpr ⟨⟨by decide, by decide, by decide, (gb_w5 111 rfl rfl), by decide, Or.inl ⟨by decide +kernel, rfl⟩⟩, fun _ h => nomatch h⟩) gb_oL gc_rk_L_whyNotCover
    (gc_hlk gb_nL hM (fun _ _ _ _ _ h => h) gf_398 gf_399 (fun _ _ h => h) gc_ck_L_whyNotCover) (t_L_whyNotCover_0_82 a b σ _ hq) rfl (fun _ _ _ _ h => h) (fun mid as S σ o h hg => (ge_at (ge_G mid as S σ) hg).trans h)
    (fun α mid as S σ k o h => (ge_G mid as S σ α k o h).elim fun o1 h1 => ⟨o1, h1.2⟩) gc_hoIXl (fun _ h => nomatch h) (fun v hv => by cases hv; exact Or.inl rfl) (Nat.le_of_ble_eq_true rfl) rfl
theorem gc_rk_L_whyNotSupervise : cl_L_whyNotSupervise.all (gb_rk gb_flL gb_slL gb_nlL gb_llL gb_tlL cL_whyNotSupervise) = true := by decide +kernel
theorem gc_ck_L_whyNotSupervise : cl_L_whyNotSupervise.all (gc_ck gb_lkL gb_lnL [417] 5) = true := by decide +kernel
theorem gl_nn_L_whyNotSupervise : cl_L_whyNotSupervise.all gl_nn = true := by decide +kernel
theorem gl_456 (hl : l.stackTraces = false) (a : Int32) (b : Int32) (σ : ga_M) (x : Int32) (σ' : ga_M) (hq : f_L_whyNotSupervise_0_82 a b σ = some (.inl x, σ')) : gb_C l D cA ad A adV yL_whyNotSupervise (gb_wsW yL_whyNotSupervise cL_whyNotSupervise 5 (some .int) [(0, 10, 13, 25)]) 5 2 12 [.ref 0, .int a, .int b, .ref 82] gaSH σ (.inl (some (.int x)), gaSH, σ') := by
  have hM : ∀ mid ∈ ([417] : List Nat), gc_MM l D cA ad A adV mid := (List.forall_mem_cons.mpr ⟨gm_417 hl, fun _ h => nomatch h⟩)
  exact gl_met (y := yL_whyNotSupervise) (own := RL) (cc := cL_whyNotSupervise) (cl := cl_L_whyNotSupervise) (g := gaG) (cost := gaCost) (maxL := 5) (wr := true) (PS := fun S _ => S = gaSH) (pc0 := 5) (Z := [((0, 10, 13, 25), (3, 15, 4))]) hl gl_pnL rfl gl_nn_L_whyNotSupervise (List.forall_mem_cons.mpr ⟨⟨by decide, by decide, by decide, (gb_w5 111 rfl rfl), by decide, Or.inl ⟨by decide +kernel, rfl⟩⟩, fun _ h => nomatch h⟩) gb_oL gc_rk_L_whyNotSupervise
    (gc_hlk gb_nL hM (fun _ _ _ _ _ h => h) gf_398 gf_399 (fun _ _ h => h) gc_ck_L_whyNotSupervise) (t_L_whyNotSupervise_0_82 a b σ _ hq) rfl (fun _ _ _ _ h => h) (fun mid as S σ o h hg => (ge_at (ge_G mid as S σ) hg).trans h)
    (fun α mid as S σ k o h => (ge_G mid as S σ α k o h).elim fun o1 h1 => ⟨o1, h1.2⟩) gc_hoIXl (fun _ h => nomatch h) (fun v hv => by cases hv; exact Or.inl rfl) (Nat.le_of_ble_eq_true rfl) rfl
theorem gc_rk_L_whyNotExchange : cl_L_whyNotExchange.all (gb_rk gb_flL gb_slL gb_nlL gb_llL gb_tlL cL_whyNotExchange) = true := by decide +kernel
theorem gc_ck_L_whyNotExchange : cl_L_whyNotExchange.all (gc_ck gb_lkL gb_lnL [418] 6) = true := by decide +kernel
theorem gl_nn_L_whyNotExchange : cl_L_whyNotExchange.all gl_nn = true := by decide +kernel
theorem gl_457 (hl : l.stackTraces = false) (a : Int32) (b : Int32) (σ : ga_M) (x : Int32) (σ' : ga_M) (hq : f_L_whyNotExchange_0_82 a b σ = some (.inl x, σ')) : gb_C l D cA ad A adV yL_whyNotExchange (gb_wsW yL_whyNotExchange cL_whyNotExchange 5 (some .int) [(0, 10, 13, 25)]) 6 2 12 [.ref 0, .int a, .int b, .ref 82] gaSH σ (.inl (some (.int x)), gaSH, σ') := by
  have hM : ∀ mid ∈ ([418] : List Nat), gc_MM l D cA ad A adV mid := (List.forall_mem_cons.mpr ⟨gm_418 hl, fun _ h => nomatch h⟩)
  exact gl_met (y := yL_whyNotExchange) (own := RL) (cc := cL_whyNotExchange) (cl := cl_L_whyNotExchange) (g := gaG) (cost := gaCost) (maxL := 5) (wr := true) (PS := fun S _ => S = gaSH) (pc0 := 5) (Z := [((0, 10, 13, 25), (3, 15, 4))]) hl gl_pnL rfl gl_nn_L_whyNotExchange (List.forall_mem_cons.mpr ⟨⟨by decide, by decide, by decide, (gb_w5 111 rfl rfl), by decide, Or.inl ⟨by decide +kernel, rfl⟩⟩, fun _ h => nomatch h⟩) gb_oL gc_rk_L_whyNotExchange
    (gc_hlk gb_nL hM (fun _ _ _ _ _ h => h) gf_398 gf_399 (fun _ _ h => h) gc_ck_L_whyNotExchange) (t_L_whyNotExchange_0_82 a b σ _ hq) rfl (fun _ _ _ _ h => h) (fun mid as S σ o h hg => (ge_at (ge_G mid as S σ) hg).trans h)
    (fun α mid as S σ k o h => (ge_G mid as S σ α k o h).elim fun o1 h1 => ⟨o1, h1.2⟩) gc_hoIXl (fun _ h => nomatch h) (fun v hv => by cases hv; exact Or.inl rfl) (Nat.le_of_ble_eq_true rfl) rfl
theorem gc_rk_L_whyNotMove : cl_L_whyNotMove.all (gb_rk gb_flL gb_slL gb_nlL gb_llL gb_tlL cL_whyNotMove) = true := by decide +kernel
theorem gc_ck_L_whyNotMove : cl_L_whyNotMove.all (gc_ck gb_lkL gb_lnL [419] 6) = true := by decide +kernel
theorem gl_nn_L_whyNotMove : cl_L_whyNotMove.all gl_nn = true := by decide +kernel
theorem gl_458 (hl : l.stackTraces = false) (a : Int32) (b : Int32) (σ : ga_M) (x : Int32) (σ' : ga_M) (hq : f_L_whyNotMove_0_82 a b σ = some (.inl x, σ')) : gb_C l D cA ad A adV yL_whyNotMove (gb_wsW yL_whyNotMove cL_whyNotMove 5 (some .int) [(0, 10, 13, 25)]) 6 2 12 [.ref 0, .int a, .int b, .ref 82] gaSH σ (.inl (some (.int x)), gaSH, σ') := by
  have hM : ∀ mid ∈ ([419] : List Nat), gc_MM l D cA ad A adV mid := (List.forall_mem_cons.mpr ⟨gm_419 hl, fun _ h => nomatch h⟩)
  exact gl_met (y := yL_whyNotMove) (own := RL) (cc := cL_whyNotMove) (cl := cl_L_whyNotMove) (g := gaG) (cost := gaCost) (maxL := 5) (wr := true) (PS := fun S _ => S = gaSH) (pc0 := 5) (Z := [((0, 10, 13, 25), (3, 15, 4))]) hl gl_pnL rfl gl_nn_L_whyNotMove (List.forall_mem_cons.mpr ⟨⟨by decide, by decide, by decide, (gb_w5 111 rfl rfl), by decide, Or.inl ⟨by decide +kernel, rfl⟩⟩, fun _ h => nomatch h⟩) gb_oL gc_rk_L_whyNotMove
    (gc_hlk gb_nL hM (fun _ _ _ _ _ h => h) gf_398 gf_399 (fun _ _ h => h) gc_ck_L_whyNotMove) (t_L_whyNotMove_0_82 a b σ _ hq) rfl (fun _ _ _ _ h => h) (fun mid as S σ o h hg => (ge_at (ge_G mid as S σ) hg).trans h)
    (fun α mid as S σ k o h => (ge_G mid as S σ α k o h).elim fun o1 h1 => ⟨o1, h1.2⟩) gc_hoIXl (fun _ h => nomatch h) (fun v hv => by cases hv; exact Or.inl rfl) (Nat.le_of_ble_eq_true rfl) rfl
theorem gc_rk_L_whyNotRoom : cl_L_whyNotRoom.all (gb_rk gb_flL gb_slL gb_nlL gb_llL gb_tlL cL_whyNotRoom) = true := by decide +kernel
theorem gc_ck_L_whyNotRoom : cl_L_whyNotRoom.all (gc_ck gb_lkL gb_lnL [420] 4) = true := by decide +kernel
theorem gl_nn_L_whyNotRoom : cl_L_whyNotRoom.all gl_nn = true := by decide +kernel
theorem gl_459 (hl : l.stackTraces = false) (a : Int32) (b : Int32) (σ : ga_M) (x : Int32) (σ' : ga_M) (hq : f_L_whyNotRoom_0_82 a b σ = some (.inl x, σ')) : gb_C l D cA ad A adV yL_whyNotRoom (gb_wsW yL_whyNotRoom cL_whyNotRoom 5 (some .int) [(0, 10, 13, 25)]) 4 2 12 [.ref 0, .int a, .int b, .ref 82] gaSH σ (.inl (some (.int x)), gaSH, σ') := by
  have hM : ∀ mid ∈ ([420] : List Nat), gc_MM l D cA ad A adV mid := (List.forall_mem_cons.mpr ⟨gm_420 hl, fun _ h => nomatch h⟩)
  exact gl_met (y := yL_whyNotRoom) (own := RL) (cc := cL_whyNotRoom) (cl := cl_L_whyNotRoom) (g := gaG) (cost := gaCost) (maxL := 5) (wr := true) (PS := fun S _ => S = gaSH) (pc0 := 5) (Z := [((0, 10, 13, 25), (3, 15, 4))]) hl gl_pnL rfl gl_nn_L_whyNotRoom (List.forall_mem_cons.mpr ⟨⟨by decide, by decide, by decide, (gb_w5 111 rfl rfl), by decide, Or.inl ⟨by decide +kernel, rfl⟩⟩, fun _ h => nomatch h⟩) gb_oL gc_rk_L_whyNotRoom
    (gc_hlk gb_nL hM (fun _ _ _ _ _ h => h) gf_398 gf_399 (fun _ _ h => h) gc_ck_L_whyNotRoom) (t_L_whyNotRoom_0_82 a b σ _ hq) rfl (fun _ _ _ _ h => h) (fun mid as S σ o h hg => (ge_at (ge_G mid as S σ) hg).trans h)
    (fun α mid as S σ k o h => (ge_G mid as S σ α k o h).elim fun o1 h1 => ⟨o1, h1.2⟩) gc_hoIXl (fun _ h => nomatch h) (fun v hv => by cases hv; exact Or.inl rfl) (Nat.le_of_ble_eq_true rfl) rfl
theorem gc_rk_L_candidates : cl_L_candidates.all (gb_rk gb_flL gb_slL gb_nlL gb_llL gb_tlL cL_candidates) = true := by decide +kernel
theorem gc_ck_L_candidates : cl_L_candidates.all (gc_ck gb_lkL gb_lnL [421] 5) = true := by decide +kernel
theorem gl_nn_L_candidates : cl_L_candidates.all gl_nn = true := by decide +kernel
theorem gl_460 (hl : l.stackTraces = false) (a : Int32) (σ : ga_M) (x : Int32) (σ' : ga_M) (hq : f_L_candidates_0_82 a σ = some (.inl x, σ')) : gb_C l D cA ad A adV yL_candidates (gb_wsW yL_candidates cL_candidates 4 (some .int) [(0, 9, 12, 25)]) 5 1 6 [.ref 0, .int a, .ref 82] gaSH σ (.inl (some (.int x)), gaSH, σ') := by
  have hM : ∀ mid ∈ ([421] : List Nat), gc_MM l D cA ad A adV mid := (List.forall_mem_cons.mpr ⟨gm_421 hl, fun _ h => nomatch h⟩)
  exact gl_met (y := yL_candidates) (own := RL) (cc := cL_candidates) (cl := cl_L_candidates) (g := gaG) (cost := gaCost) (maxL := 4) (wr := true) (PS := fun S _ => S = gaSH) (pc0 := 4) (Z := [((0, 9, 12, 25), (3, 13, 3))]) hl gl_pnL rfl gl_nn_L_candidates (List.forall_mem_cons.mpr ⟨⟨by decide, by decide, by decide, (gb_w5 111 rfl rfl), by decide, Or.inr ⟨3, by decide +kernel, rfl, rfl⟩⟩, fun _ h => nomatch h⟩) gb_oL gc_rk_L_candidates
    (gc_hlk gb_nL hM (fun _ _ _ _ _ h => h) gf_398 gf_399 (fun _ _ h => h) gc_ck_L_candidates) (t_L_candidates_0_82 a σ _ hq) rfl (fun _ _ _ _ h => h) (fun mid as S σ o h hg => (ge_at (ge_G mid as S σ) hg).trans h)
    (fun α mid as S σ k o h => (ge_G mid as S σ α k o h).elim fun o1 h1 => ⟨o1, h1.2⟩) gc_hoIXl (fun _ h => nomatch h) (fun v hv => by cases hv; exact Or.inl rfl) (Nat.le_of_ble_eq_true rfl) rfl
theorem gc_rk_L_chain : cl_L_chain.all (gb_rk gb_flL gb_slL gb_nlL gb_llL gb_tlL cL_chain) = true := by decide +kernel
theorem gc_ck_L_chain : cl_L_chain.all (gc_ck gb_lkL gb_lnL [422] 5) = true := by decide +kernel
theorem gl_nn_L_chain : cl_L_chain.all gl_nn = true := by decide +kernel
theorem gl_461 (hl : l.stackTraces = false) (a : Int32) (σ : ga_M) (x : Int32) (σ' : ga_M) (hq : f_L_chain_0_82 a σ = some (.inl x, σ')) : gb_C l D cA ad A adV yL_chain (gb_wsW yL_chain cL_chain 4 (some .int) [(0, 9, 12, 25)]) 5 1 6 [.ref 0, .int a, .ref 82] gaSH σ (.inl (some (.int x)), gaSH, σ') := by
  have hM : ∀ mid ∈ ([422] : List Nat), gc_MM l D cA ad A adV mid := (List.forall_mem_cons.mpr ⟨gm_422 hl, fun _ h => nomatch h⟩)
  exact gl_met (y := yL_chain) (own := RL) (cc := cL_chain) (cl := cl_L_chain) (g := gaG) (cost := gaCost) (maxL := 4) (wr := true) (PS := fun S _ => S = gaSH) (pc0 := 4) (Z := [((0, 9, 12, 25), (3, 13, 3))]) hl gl_pnL rfl gl_nn_L_chain (List.forall_mem_cons.mpr ⟨⟨by decide, by decide, by decide, (gb_w5 111 rfl rfl), by decide, Or.inr ⟨3, by decide +kernel, rfl, rfl⟩⟩, fun _ h => nomatch h⟩) gb_oL gc_rk_L_chain
    (gc_hlk gb_nL hM (fun _ _ _ _ _ h => h) gf_398 gf_399 (fun _ _ h => h) gc_ck_L_chain) (t_L_chain_0_82 a σ _ hq) rfl (fun _ _ _ _ h => h) (fun mid as S σ o h hg => (ge_at (ge_G mid as S σ) hg).trans h)
    (fun α mid as S σ k o h => (ge_G mid as S σ α k o h).elim fun o1 h1 => ⟨o1, h1.2⟩) gc_hoIXl (fun _ h => nomatch h) (fun v hv => by cases hv; exact Or.inl rfl) (Nat.le_of_ble_eq_true rfl) rfl
theorem gc_rk_L_chainTeacher : cl_L_chainTeacher.all (gb_rk gb_flL gb_slL gb_nlL gb_llL gb_tlL cL_chainTeacher) = true := by decide +kernel
theorem gc_ck_L_chainTeacher : cl_L_chainTeacher.all (gc_ck gb_lkL gb_lnL [423] 5) = true := by decide +kernel
theorem gl_nn_L_chainTeacher : cl_L_chainTeacher.all gl_nn = true := by decide +kernel
theorem gl_462 (hl : l.stackTraces = false) (a : Int32) (b : Int32) (σ : ga_M) (x : Int32) (σ' : ga_M) (hq : f_L_chainTeacher_0_82 a b σ = some (.inl x, σ')) : gb_C l D cA ad A adV yL_chainTeacher (gb_wsW yL_chainTeacher cL_chainTeacher 5 (some .int) [(0, 10, 13, 25), (0, 10, 17, 73)]) 5 2 12 [.ref 0, .int a, .int b, .ref 82] gaSH σ (.inl (some (.int x)), gaSH, σ') := by
  have hM : ∀ mid ∈ ([423] : List Nat), gc_MM l D cA ad A adV mid := (List.forall_mem_cons.mpr ⟨gm_423 hl, fun _ h => nomatch h⟩)
  exact gl_met (y := yL_chainTeacher) (own := RL) (cc := cL_chainTeacher) (cl := cl_L_chainTeacher) (g := gaG) (cost := gaCost) (maxL := 5) (wr := true) (PS := fun S _ => S = gaSH) (pc0 := 5) (Z := [((0, 10, 13, 25), (3, 15, 4)), ((0, 10, 17, 73), (4, 19, 4))]) hl gl_pnL rfl gl_nn_L_chainTeacher (List.forall_mem_cons.mpr ⟨⟨by decide, by decide, by decide, (gb_w5 111 rfl rfl), by decide, Or.inl ⟨by decide +kernel, rfl⟩⟩, List.forall_mem_cons.mpr ⟨⟨by decide, by decide, by decide, (gb_w6 45 rfl rfl), by decide, Or.inl ⟨by decide +kernel, rfl⟩⟩, fun _ h => nomatch h⟩⟩) gb_oL gc_rk_L_chainTeacher
    (gc_hlk gb_nL hM (fun _ _ _ _ _ h => h) gf_398 gf_399 (fun _ _ h => h) gc_ck_L_chainTeacher) (t_L_chainTeacher_0_82 a b σ _ hq) rfl (fun _ _ _ _ h => h) (fun mid as S σ o h hg => (ge_at (ge_G mid as S σ) hg).trans h)
    (fun α mid as S σ k o h => (ge_G mid as S σ α k o h).elim fun o1 h1 => ⟨o1, h1.2⟩) gc_hoIXl (fun _ h => nomatch h) (fun v hv => by cases hv; exact Or.inl rfl) (Nat.le_of_ble_eq_true rfl) rfl
theorem gc_rk_L_partners : cl_L_partners.all (gb_rk gb_flL gb_slL gb_nlL gb_llL gb_tlL cL_partners) = true := by decide +kernel
theorem gc_ck_L_partners : cl_L_partners.all (gc_ck gb_lkL gb_lnL [424] 6) = true := by decide +kernel
theorem gl_nn_L_partners : cl_L_partners.all gl_nn = true := by decide +kernel
theorem gl_463 (hl : l.stackTraces = false) (a : Int32) (σ : ga_M) (x : Int32) (σ' : ga_M) (hq : f_L_partners_0_82 a σ = some (.inl x, σ')) : gb_C l D cA ad A adV yL_partners (gb_wsW yL_partners cL_partners 4 (some .int) [(0, 9, 12, 25)]) 6 1 6 [.ref 0, .int a, .ref 82] gaSH σ (.inl (some (.int x)), gaSH, σ') := by
  have hM : ∀ mid ∈ ([424] : List Nat), gc_MM l D cA ad A adV mid := (List.forall_mem_cons.mpr ⟨gm_424 hl, fun _ h => nomatch h⟩)
  exact gl_met (y := yL_partners) (own := RL) (cc := cL_partners) (cl := cl_L_partners) (g := gaG) (cost := gaCost) (maxL := 4) (wr := true) (PS := fun S _ => S = gaSH) (pc0 := 4) (Z := [((0, 9, 12, 25), (3, 13, 3))]) hl gl_pnL rfl gl_nn_L_partners (List.forall_mem_cons.mpr ⟨⟨by decide, by decide, by decide, (gb_w5 111 rfl rfl), by decide, Or.inr ⟨3, by decide +kernel, rfl, rfl⟩⟩, fun _ h => nomatch h⟩) gb_oL gc_rk_L_partners
    (gc_hlk gb_nL hM (fun _ _ _ _ _ h => h) gf_398 gf_399 (fun _ _ h => h) gc_ck_L_partners) (t_L_partners_0_82 a σ _ hq) rfl (fun _ _ _ _ h => h) (fun mid as S σ o h hg => (ge_at (ge_G mid as S σ) hg).trans h)
    (fun α mid as S σ k o h => (ge_G mid as S σ α k o h).elim fun o1 h1 => ⟨o1, h1.2⟩) gc_hoIXl (fun _ h => nomatch h) (fun v hv => by cases hv; exact Or.inl rfl) (Nat.le_of_ble_eq_true rfl) rfl
theorem gc_rk_L_firstPartner : cl_L_firstPartner.all (gb_rk gb_flL gb_slL gb_nlL gb_llL gb_tlL cL_firstPartner) = true := by decide +kernel
theorem gc_ck_L_firstPartner : cl_L_firstPartner.all (gc_ck gb_lkL gb_lnL [425] 6) = true := by decide +kernel
theorem gl_nn_L_firstPartner : cl_L_firstPartner.all gl_nn = true := by decide +kernel
theorem gl_464 (hl : l.stackTraces = false) (a : Int32) (σ : ga_M) (x : Int32) (σ' : ga_M) (hq : f_L_firstPartner_0_82 a σ = some (.inl x, σ')) : gb_C l D cA ad A adV yL_firstPartner (gb_wsW yL_firstPartner cL_firstPartner 4 (some .int) [(0, 9, 12, 25), (0, 9, 15, 73)]) 6 2 12 [.ref 0, .int a, .ref 82] gaSH σ (.inl (some (.int x)), gaSH, σ') := by
  have hM : ∀ mid ∈ ([425] : List Nat), gc_MM l D cA ad A adV mid := (List.forall_mem_cons.mpr ⟨gm_425 hl, fun _ h => nomatch h⟩)
  exact gl_met (y := yL_firstPartner) (own := RL) (cc := cL_firstPartner) (cl := cl_L_firstPartner) (g := gaG) (cost := gaCost) (maxL := 4) (wr := true) (PS := fun S _ => S = gaSH) (pc0 := 4) (Z := [((0, 9, 12, 25), (3, 13, 3)), ((0, 9, 15, 73), (4, 16, 3))]) hl gl_pnL rfl gl_nn_L_firstPartner (List.forall_mem_cons.mpr ⟨⟨by decide, by decide, by decide, (gb_w5 111 rfl rfl), by decide, Or.inr ⟨3, by decide +kernel, rfl, rfl⟩⟩, List.forall_mem_cons.mpr ⟨⟨by decide, by decide, by decide, (gb_w6 45 rfl rfl), by decide, Or.inr ⟨3, by decide +kernel, rfl, rfl⟩⟩, fun _ h => nomatch h⟩⟩) gb_oL gc_rk_L_firstPartner
    (gc_hlk gb_nL hM (fun _ _ _ _ _ h => h) gf_398 gf_399 (fun _ _ h => h) gc_ck_L_firstPartner) (t_L_firstPartner_0_82 a σ _ hq) rfl (fun _ _ _ _ h => h) (fun mid as S σ o h hg => (ge_at (ge_G mid as S σ) hg).trans h)
    (fun α mid as S σ k o h => (ge_G mid as S σ α k o h).elim fun o1 h1 => ⟨o1, h1.2⟩) gc_hoIXl (fun _ h => nomatch h) (fun v hv => by cases hv; exact Or.inl rfl) (Nat.le_of_ble_eq_true rfl) rfl
theorem gc_rk_L_slotsFor : cl_L_slotsFor.all (gb_rk gb_flL gb_slL gb_nlL gb_llL gb_tlL cL_slotsFor) = true := by decide +kernel
theorem gc_ck_L_slotsFor : cl_L_slotsFor.all (gc_ck gb_lkL gb_lnL [426] 6) = true := by decide +kernel
theorem gl_nn_L_slotsFor : cl_L_slotsFor.all gl_nn = true := by decide +kernel
theorem gl_465 (hl : l.stackTraces = false) (a : Int32) (σ : ga_M) (x : Int32) (σ' : ga_M) (hq : f_L_slotsFor_0_82 a σ = some (.inl x, σ')) : gb_C l D cA ad A adV yL_slotsFor (gb_wsW yL_slotsFor cL_slotsFor 4 (some .int) [(0, 9, 12, 25)]) 6 1 6 [.ref 0, .int a, .ref 82] gaSH σ (.inl (some (.int x)), gaSH, σ') := by
  have hM : ∀ mid ∈ ([426] : List Nat), gc_MM l D cA ad A adV mid := (List.forall_mem_cons.mpr ⟨gm_426 hl, fun _ h => nomatch h⟩)
  exact gl_met (y := yL_slotsFor) (own := RL) (cc := cL_slotsFor) (cl := cl_L_slotsFor) (g := gaG) (cost := gaCost) (maxL := 4) (wr := true) (PS := fun S _ => S = gaSH) (pc0 := 4) (Z := [((0, 9, 12, 25), (3, 13, 3))]) hl gl_pnL rfl gl_nn_L_slotsFor (List.forall_mem_cons.mpr ⟨⟨by decide, by decide, by decide, (gb_w5 111 rfl rfl), by decide, Or.inr ⟨3, by decide +kernel, rfl, rfl⟩⟩, fun _ h => nomatch h⟩) gb_oL gc_rk_L_slotsFor
    (gc_hlk gb_nL hM (fun _ _ _ _ _ h => h) gf_398 gf_399 (fun _ _ h => h) gc_ck_L_slotsFor) (t_L_slotsFor_0_82 a σ _ hq) rfl (fun _ _ _ _ h => h) (fun mid as S σ o h hg => (ge_at (ge_G mid as S σ) hg).trans h)
    (fun α mid as S σ k o h => (ge_G mid as S σ α k o h).elim fun o1 h1 => ⟨o1, h1.2⟩) gc_hoIXl (fun _ h => nomatch h) (fun v hv => by cases hv; exact Or.inl rfl) (Nat.le_of_ble_eq_true rfl) rfl
theorem gc_rk_L_count : cl_L_count.all (gb_rk gb_flL gb_slL gb_nlL gb_llL gb_tlL cL_count) = true := by decide +kernel
theorem gc_ck_L_count : cl_L_count.all (gc_ck gb_lkL gb_lnL [427] 5) = true := by decide +kernel
theorem gl_nn_L_count : cl_L_count.all gl_nn = true := by decide +kernel
theorem gl_466 (hl : l.stackTraces = false) (a : Int32) (σ : ga_M) (x : Int32) (σ' : ga_M) (hq : f_L_count_0_82 a σ = some (.inl x, σ')) : gb_C l D cA ad A adV yL_count (gb_wsW yL_count cL_count 4 (some .int) [(0, 9, 12, 19)]) 5 1 6 [.ref 0, .int a, .ref 82] gaSH σ (.inl (some (.int x)), gaSH, σ') := by
  have hM : ∀ mid ∈ ([427] : List Nat), gc_MM l D cA ad A adV mid := (List.forall_mem_cons.mpr ⟨gm_427 hl, fun _ h => nomatch h⟩)
  exact gl_met (y := yL_count) (own := RL) (cc := cL_count) (cl := cl_L_count) (g := gaG) (cost := gaCost) (maxL := 4) (wr := true) (PS := fun S _ => S = gaSH) (pc0 := 4) (Z := [((0, 9, 12, 19), (2, 13, 3))]) hl gl_pnL rfl gl_nn_L_count (List.forall_mem_cons.mpr ⟨⟨by decide, by decide, by decide, (gb_w5 87 rfl rfl), by decide, Or.inr ⟨3, by decide +kernel, rfl, rfl⟩⟩, fun _ h => nomatch h⟩) gb_oL gc_rk_L_count
    (gc_hlk gb_nL hM (fun _ _ _ _ _ h => h) gf_398 gf_399 (fun _ _ h => h) gc_ck_L_count) (t_L_count_0_82 a σ _ hq) rfl (fun _ _ _ _ h => h) (fun mid as S σ o h hg => (ge_at (ge_G mid as S σ) hg).trans h)
    (fun α mid as S σ k o h => (ge_G mid as S σ α k o h).elim fun o1 h1 => ⟨o1, h1.2⟩) gc_hoIXl (fun _ h => nomatch h) (fun v hv => by cases hv; exact Or.inl rfl) (Nat.le_of_ble_eq_true rfl) rfl
theorem gc_rk_L_lesson : cl_L_lesson.all (gb_rk gb_flL gb_slL gb_nlL gb_llL gb_tlL cL_lesson) = true := by decide +kernel
theorem gc_ck_L_lesson : cl_L_lesson.all (gc_ck gb_lkL gb_lnL [428] 4) = true := by decide +kernel
theorem gl_nn_L_lesson : cl_L_lesson.all gl_nn = true := by decide +kernel
theorem gl_467 (hl : l.stackTraces = false) (a : Int32) (b : Int32) (σ : ga_M) (x : Int32) (σ' : ga_M) (hq : f_L_lesson_0_82 a b σ = some (.inl x, σ')) : gb_C l D cA ad A adV yL_lesson (gb_wsW yL_lesson cL_lesson 5 (some .int) [(0, 10, 13, 25), (0, 10, 17, 19)]) 4 2 12 [.ref 0, .int a, .int b, .ref 82] gaSH σ (.inl (some (.int x)), gaSH, σ') := by
  have hM : ∀ mid ∈ ([428] : List Nat), gc_MM l D cA ad A adV mid := (List.forall_mem_cons.mpr ⟨gm_428 hl, fun _ h => nomatch h⟩)
  exact gl_met (y := yL_lesson) (own := RL) (cc := cL_lesson) (cl := cl_L_lesson) (g := gaG) (cost := gaCost) (maxL := 5) (wr := true) (PS := fun S _ => S = gaSH) (pc0 := 5) (Z := [((0, 10, 13, 25), (3, 15, 4)), ((0, 10, 17, 19), (2, 19, 4))]) hl gl_pnL rfl gl_nn_L_lesson (List.forall_mem_cons.mpr ⟨⟨by decide, by decide, by decide, (gb_w5 111 rfl rfl), by decide, Or.inl ⟨by decide +kernel, rfl⟩⟩, List.forall_mem_cons.mpr ⟨⟨by decide, by decide, by decide, (gb_w5 87 rfl rfl), by decide, Or.inl ⟨by decide +kernel, rfl⟩⟩, fun _ h => nomatch h⟩⟩) gb_oL gc_rk_L_lesson
    (gc_hlk gb_nL hM (fun _ _ _ _ _ h => h) gf_398 gf_399 (fun _ _ h => h) gc_ck_L_lesson) (t_L_lesson_0_82 a b σ _ hq) rfl (fun _ _ _ _ h => h) (fun mid as S σ o h hg => (ge_at (ge_G mid as S σ) hg).trans h)
    (fun α mid as S σ k o h => (ge_G mid as S σ α k o h).elim fun o1 h1 => ⟨o1, h1.2⟩) gc_hoIXl (fun _ h => nomatch h) (fun v hv => by cases hv; exact Or.inl rfl) (Nat.le_of_ble_eq_true rfl) rfl
theorem gc_rk_L_teacher : cl_L_teacher.all (gb_rk gb_flL gb_slL gb_nlL gb_llL gb_tlL cL_teacher) = true := by decide +kernel
theorem gc_ck_L_teacher : cl_L_teacher.all (gc_ck gb_lkL gb_lnL [429] 4) = true := by decide +kernel
theorem gl_nn_L_teacher : cl_L_teacher.all gl_nn = true := by decide +kernel
theorem gl_468 (hl : l.stackTraces = false) (a : Int32) (b : Int32) (σ : ga_M) (x : Int32) (σ' : ga_M) (hq : f_L_teacher_0_82 a b σ = some (.inl x, σ')) : gb_C l D cA ad A adV yL_teacher (gb_wsW yL_teacher cL_teacher 5 (some .int) [(0, 10, 13, 25), (0, 10, 17, 19)]) 4 2 12 [.ref 0, .int a, .int b, .ref 82] gaSH σ (.inl (some (.int x)), gaSH, σ') := by
  have hM : ∀ mid ∈ ([429] : List Nat), gc_MM l D cA ad A adV mid := (List.forall_mem_cons.mpr ⟨gm_429 hl, fun _ h => nomatch h⟩)
  exact gl_met (y := yL_teacher) (own := RL) (cc := cL_teacher) (cl := cl_L_teacher) (g := gaG) (cost := gaCost) (maxL := 5) (wr := true) (PS := fun S _ => S = gaSH) (pc0 := 5) (Z := [((0, 10, 13, 25), (3, 15, 4)), ((0, 10, 17, 19), (2, 19, 4))]) hl gl_pnL rfl gl_nn_L_teacher (List.forall_mem_cons.mpr ⟨⟨by decide, by decide, by decide, (gb_w5 111 rfl rfl), by decide, Or.inl ⟨by decide +kernel, rfl⟩⟩, List.forall_mem_cons.mpr ⟨⟨by decide, by decide, by decide, (gb_w5 87 rfl rfl), by decide, Or.inl ⟨by decide +kernel, rfl⟩⟩, fun _ h => nomatch h⟩⟩) gb_oL gc_rk_L_teacher
    (gc_hlk gb_nL hM (fun _ _ _ _ _ h => h) gf_398 gf_399 (fun _ _ h => h) gc_ck_L_teacher) (t_L_teacher_0_82 a b σ _ hq) rfl (fun _ _ _ _ h => h) (fun mid as S σ o h hg => (ge_at (ge_G mid as S σ) hg).trans h)
    (fun α mid as S σ k o h => (ge_G mid as S σ α k o h).elim fun o1 h1 => ⟨o1, h1.2⟩) gc_hoIXl (fun _ h => nomatch h) (fun v hv => by cases hv; exact Or.inl rfl) (Nat.le_of_ble_eq_true rfl) rfl
theorem gc_rk_L_room : cl_L_room.all (gb_rk gb_flL gb_slL gb_nlL gb_llL gb_tlL cL_room) = true := by decide +kernel
theorem gc_ck_L_room : cl_L_room.all (gc_ck gb_lkL gb_lnL [430] 3) = true := by decide +kernel
theorem gl_nn_L_room : cl_L_room.all gl_nn = true := by decide +kernel
theorem gl_469 (hl : l.stackTraces = false) (a : Int32) (b : Int32) (σ : ga_M) (x : Int32) (σ' : ga_M) (hq : f_L_room_0_82 a b σ = some (.inl x, σ')) : gb_C l D cA ad A adV yL_room (gb_wsW yL_room cL_room 5 (some .int) [(0, 10, 13, 25), (0, 10, 17, 19)]) 3 2 12 [.ref 0, .int a, .int b, .ref 82] gaSH σ (.inl (some (.int x)), gaSH, σ') := by
  have hM : ∀ mid ∈ ([430] : List Nat), gc_MM l D cA ad A adV mid := (List.forall_mem_cons.mpr ⟨gm_430 hl, fun _ h => nomatch h⟩)
  exact gl_met (y := yL_room) (own := RL) (cc := cL_room) (cl := cl_L_room) (g := gaG) (cost := gaCost) (maxL := 5) (wr := true) (PS := fun S _ => S = gaSH) (pc0 := 5) (Z := [((0, 10, 13, 25), (3, 15, 4)), ((0, 10, 17, 19), (2, 19, 4))]) hl gl_pnL rfl gl_nn_L_room (List.forall_mem_cons.mpr ⟨⟨by decide, by decide, by decide, (gb_w5 111 rfl rfl), by decide, Or.inl ⟨by decide +kernel, rfl⟩⟩, List.forall_mem_cons.mpr ⟨⟨by decide, by decide, by decide, (gb_w5 87 rfl rfl), by decide, Or.inl ⟨by decide +kernel, rfl⟩⟩, fun _ h => nomatch h⟩⟩) gb_oL gc_rk_L_room
    (gc_hlk gb_nL hM (fun _ _ _ _ _ h => h) gf_398 gf_399 (fun _ _ h => h) gc_ck_L_room) (t_L_room_0_82 a b σ _ hq) rfl (fun _ _ _ _ h => h) (fun mid as S σ o h hg => (ge_at (ge_G mid as S σ) hg).trans h)
    (fun α mid as S σ k o h => (ge_G mid as S σ α k o h).elim fun o1 h1 => ⟨o1, h1.2⟩) gc_hoIXl (fun _ h => nomatch h) (fun v hv => by cases hv; exact Or.inl rfl) (Nat.le_of_ble_eq_true rfl) rfl
theorem gc_rk_L_subject : cl_L_subject.all (gb_rk gb_flL gb_slL gb_nlL gb_llL gb_tlL cL_subject) = true := by decide +kernel
theorem gc_ck_L_subject : cl_L_subject.all (gc_ck gb_lkL gb_lnL [431] 3) = true := by decide +kernel
theorem gl_nn_L_subject : cl_L_subject.all gl_nn = true := by decide +kernel
theorem gl_470 (hl : l.stackTraces = false) (a : Int32) (b : Int32) (σ : ga_M) (x : Int32) (σ' : ga_M) (hq : f_L_subject_0_82 a b σ = some (.inl x, σ')) : gb_C l D cA ad A adV yL_subject (gb_wsW yL_subject cL_subject 5 (some .int) [(0, 10, 13, 25), (0, 10, 17, 19)]) 3 1 6 [.ref 0, .int a, .int b, .ref 82] gaSH σ (.inl (some (.int x)), gaSH, σ') := by
  have hM : ∀ mid ∈ ([431] : List Nat), gc_MM l D cA ad A adV mid := (List.forall_mem_cons.mpr ⟨gm_431 hl, fun _ h => nomatch h⟩)
  exact gl_met (y := yL_subject) (own := RL) (cc := cL_subject) (cl := cl_L_subject) (g := gaG) (cost := gaCost) (maxL := 5) (wr := true) (PS := fun S _ => S = gaSH) (pc0 := 5) (Z := [((0, 10, 13, 25), (3, 15, 4)), ((0, 10, 17, 19), (2, 19, 4))]) hl gl_pnL rfl gl_nn_L_subject (List.forall_mem_cons.mpr ⟨⟨by decide, by decide, by decide, (gb_w5 111 rfl rfl), by decide, Or.inl ⟨by decide +kernel, rfl⟩⟩, List.forall_mem_cons.mpr ⟨⟨by decide, by decide, by decide, (gb_w5 87 rfl rfl), by decide, Or.inl ⟨by decide +kernel, rfl⟩⟩, fun _ h => nomatch h⟩⟩) gb_oL gc_rk_L_subject
    (gc_hlk gb_nL hM (fun _ _ _ _ _ h => h) gf_398 gf_399 (fun _ _ h => h) gc_ck_L_subject) (t_L_subject_0_82 a b σ _ hq) rfl (fun _ _ _ _ h => h) (fun mid as S σ o h hg => (ge_at (ge_G mid as S σ) hg).trans h)
    (fun α mid as S σ k o h => (ge_G mid as S σ α k o h).elim fun o1 h1 => ⟨o1, h1.2⟩) gc_hoIXl (fun _ h => nomatch h) (fun v hv => by cases hv; exact Or.inl rfl) (Nat.le_of_ble_eq_true rfl) rfl
theorem gc_rk_L_lessonOfClass : cl_L_lessonOfClass.all (gb_rk gb_flL gb_slL gb_nlL gb_llL gb_tlL cL_lessonOfClass) = true := by decide +kernel
theorem gc_ck_L_lessonOfClass : cl_L_lessonOfClass.all (gc_ck gb_lkL gb_lnL [433] 4) = true := by decide +kernel
theorem gl_nn_L_lessonOfClass : cl_L_lessonOfClass.all gl_nn = true := by decide +kernel
theorem gl_471 (hl : l.stackTraces = false) (a : Int32) (b : Int32) (σ : ga_M) (x : Int32) (σ' : ga_M) (hq : f_L_lessonOfClass_0_82 a b σ = some (.inl x, σ')) : gb_C l D cA ad A adV yL_lessonOfClass (gb_wsW yL_lessonOfClass cL_lessonOfClass 5 (some .int) [(0, 10, 13, 25)]) 4 2 12 [.ref 0, .int a, .int b, .ref 82] gaSH σ (.inl (some (.int x)), gaSH, σ') := by
  have hM : ∀ mid ∈ ([433] : List Nat), gc_MM l D cA ad A adV mid := (List.forall_mem_cons.mpr ⟨gm_433 hl, fun _ h => nomatch h⟩)
  exact gl_met (y := yL_lessonOfClass) (own := RL) (cc := cL_lessonOfClass) (cl := cl_L_lessonOfClass) (g := gaG) (cost := gaCost) (maxL := 5) (wr := true) (PS := fun S _ => S = gaSH) (pc0 := 5) (Z := [((0, 10, 13, 25), (3, 15, 4))]) hl gl_pnL rfl gl_nn_L_lessonOfClass (List.forall_mem_cons.mpr ⟨⟨by decide, by decide, by decide, (gb_w5 111 rfl rfl), by decide, Or.inl ⟨by decide +kernel, rfl⟩⟩, fun _ h => nomatch h⟩) gb_oL gc_rk_L_lessonOfClass
    (gc_hlk gb_nL hM (fun _ _ _ _ _ h => h) gf_398 gf_399 (fun _ _ h => h) gc_ck_L_lessonOfClass) (t_L_lessonOfClass_0_82 a b σ _ hq) rfl (fun _ _ _ _ h => h) (fun mid as S σ o h hg => (ge_at (ge_G mid as S σ) hg).trans h)
    (fun α mid as S σ k o h => (ge_G mid as S σ α k o h).elim fun o1 h1 => ⟨o1, h1.2⟩) gc_hoIXl (fun _ h => nomatch h) (fun v hv => by cases hv; exact Or.inl rfl) (Nat.le_of_ble_eq_true rfl) rfl
theorem gc_rk_L_lessonOfTeacher : cl_L_lessonOfTeacher.all (gb_rk gb_flL gb_slL gb_nlL gb_llL gb_tlL cL_lessonOfTeacher) = true := by decide +kernel
theorem gc_ck_L_lessonOfTeacher : cl_L_lessonOfTeacher.all (gc_ck gb_lkL gb_lnL [434] 4) = true := by decide +kernel
theorem gl_nn_L_lessonOfTeacher : cl_L_lessonOfTeacher.all gl_nn = true := by decide +kernel
theorem gl_472 (hl : l.stackTraces = false) (a : Int32) (b : Int32) (σ : ga_M) (x : Int32) (σ' : ga_M) (hq : f_L_lessonOfTeacher_0_82 a b σ = some (.inl x, σ')) : gb_C l D cA ad A adV yL_lessonOfTeacher (gb_wsW yL_lessonOfTeacher cL_lessonOfTeacher 5 (some .int) [(0, 10, 13, 25)]) 4 2 12 [.ref 0, .int a, .int b, .ref 82] gaSH σ (.inl (some (.int x)), gaSH, σ') := by
  have hM : ∀ mid ∈ ([434] : List Nat), gc_MM l D cA ad A adV mid := (List.forall_mem_cons.mpr ⟨gm_434 hl, fun _ h => nomatch h⟩)
  exact gl_met (y := yL_lessonOfTeacher) (own := RL) (cc := cL_lessonOfTeacher) (cl := cl_L_lessonOfTeacher) (g := gaG) (cost := gaCost) (maxL := 5) (wr := true) (PS := fun S _ => S = gaSH) (pc0 := 5) (Z := [((0, 10, 13, 25), (3, 15, 4))]) hl gl_pnL rfl gl_nn_L_lessonOfTeacher (List.forall_mem_cons.mpr ⟨⟨by decide, by decide, by decide, (gb_w5 111 rfl rfl), by decide, Or.inl ⟨by decide +kernel, rfl⟩⟩, fun _ h => nomatch h⟩) gb_oL gc_rk_L_lessonOfTeacher
    (gc_hlk gb_nL hM (fun _ _ _ _ _ h => h) gf_398 gf_399 (fun _ _ h => h) gc_ck_L_lessonOfTeacher) (t_L_lessonOfTeacher_0_82 a b σ _ hq) rfl (fun _ _ _ _ h => h) (fun mid as S σ o h hg => (ge_at (ge_G mid as S σ) hg).trans h)
    (fun α mid as S σ k o h => (ge_G mid as S σ α k o h).elim fun o1 h1 => ⟨o1, h1.2⟩) gc_hoIXl (fun _ h => nomatch h) (fun v hv => by cases hv; exact Or.inl rfl) (Nat.le_of_ble_eq_true rfl) rfl
theorem gc_rk_L_lessonInRoom : cl_L_lessonInRoom.all (gb_rk gb_flL gb_slL gb_nlL gb_llL gb_tlL cL_lessonInRoom) = true := by decide +kernel
theorem gc_ck_L_lessonInRoom : cl_L_lessonInRoom.all (gc_ck gb_lkL gb_lnL [435] 4) = true := by decide +kernel
theorem gl_nn_L_lessonInRoom : cl_L_lessonInRoom.all gl_nn = true := by decide +kernel
theorem gl_473 (hl : l.stackTraces = false) (a : Int32) (b : Int32) (σ : ga_M) (x : Int32) (σ' : ga_M) (hq : f_L_lessonInRoom_0_82 a b σ = some (.inl x, σ')) : gb_C l D cA ad A adV yL_lessonInRoom (gb_wsW yL_lessonInRoom cL_lessonInRoom 5 (some .int) [(0, 10, 13, 25)]) 4 2 12 [.ref 0, .int a, .int b, .ref 82] gaSH σ (.inl (some (.int x)), gaSH, σ') := by
  have hM : ∀ mid ∈ ([435] : List Nat), gc_MM l D cA ad A adV mid := (List.forall_mem_cons.mpr ⟨gm_435 hl, fun _ h => nomatch h⟩)
  exact gl_met (y := yL_lessonInRoom) (own := RL) (cc := cL_lessonInRoom) (cl := cl_L_lessonInRoom) (g := gaG) (cost := gaCost) (maxL := 5) (wr := true) (PS := fun S _ => S = gaSH) (pc0 := 5) (Z := [((0, 10, 13, 25), (3, 15, 4))]) hl gl_pnL rfl gl_nn_L_lessonInRoom (List.forall_mem_cons.mpr ⟨⟨by decide, by decide, by decide, (gb_w5 111 rfl rfl), by decide, Or.inl ⟨by decide +kernel, rfl⟩⟩, fun _ h => nomatch h⟩) gb_oL gc_rk_L_lessonInRoom
    (gc_hlk gb_nL hM (fun _ _ _ _ _ h => h) gf_398 gf_399 (fun _ _ h => h) gc_ck_L_lessonInRoom) (t_L_lessonInRoom_0_82 a b σ _ hq) rfl (fun _ _ _ _ h => h) (fun mid as S σ o h hg => (ge_at (ge_G mid as S σ) hg).trans h)
    (fun α mid as S σ k o h => (ge_G mid as S σ α k o h).elim fun o1 h1 => ⟨o1, h1.2⟩) gc_hoIXl (fun _ h => nomatch h) (fun v hv => by cases hv; exact Or.inl rfl) (Nat.le_of_ble_eq_true rfl) rfl
theorem gc_rk_L_freeTeachers : cl_L_freeTeachers.all (gb_rk gb_flL gb_slL gb_nlL gb_llL gb_tlL cL_freeTeachers) = true := by decide +kernel
theorem gc_ck_L_freeTeachers : cl_L_freeTeachers.all (gc_ck gb_lkL gb_lnL [436] 4) = true := by decide +kernel
theorem gl_nn_L_freeTeachers : cl_L_freeTeachers.all gl_nn = true := by decide +kernel
theorem gl_474 (hl : l.stackTraces = false) (a : Int32) (σ : ga_M) (x : Int32) (σ' : ga_M) (hq : f_L_freeTeachers_0_82 a σ = some (.inl x, σ')) : gb_C l D cA ad A adV yL_freeTeachers (gb_wsW yL_freeTeachers cL_freeTeachers 4 (some .int) [(0, 9, 12, 25)]) 4 1 6 [.ref 0, .int a, .ref 82] gaSH σ (.inl (some (.int x)), gaSH, σ') := by
  have hM : ∀ mid ∈ ([436] : List Nat), gc_MM l D cA ad A adV mid := (List.forall_mem_cons.mpr ⟨gm_436 hl, fun _ h => nomatch h⟩)
  exact gl_met (y := yL_freeTeachers) (own := RL) (cc := cL_freeTeachers) (cl := cl_L_freeTeachers) (g := gaG) (cost := gaCost) (maxL := 4) (wr := true) (PS := fun S _ => S = gaSH) (pc0 := 4) (Z := [((0, 9, 12, 25), (3, 13, 3))]) hl gl_pnL rfl gl_nn_L_freeTeachers (List.forall_mem_cons.mpr ⟨⟨by decide, by decide, by decide, (gb_w5 111 rfl rfl), by decide, Or.inr ⟨3, by decide +kernel, rfl, rfl⟩⟩, fun _ h => nomatch h⟩) gb_oL gc_rk_L_freeTeachers
    (gc_hlk gb_nL hM (fun _ _ _ _ _ h => h) gf_398 gf_399 (fun _ _ h => h) gc_ck_L_freeTeachers) (t_L_freeTeachers_0_82 a σ _ hq) rfl (fun _ _ _ _ h => h) (fun mid as S σ o h hg => (ge_at (ge_G mid as S σ) hg).trans h)
    (fun α mid as S σ k o h => (ge_G mid as S σ α k o h).elim fun o1 h1 => ⟨o1, h1.2⟩) gc_hoIXl (fun _ h => nomatch h) (fun v hv => by cases hv; exact Or.inl rfl) (Nat.le_of_ble_eq_true rfl) rfl
theorem gc_rk_L_freeRooms : cl_L_freeRooms.all (gb_rk gb_flL gb_slL gb_nlL gb_llL gb_tlL cL_freeRooms) = true := by decide +kernel
theorem gc_ck_L_freeRooms : cl_L_freeRooms.all (gc_ck gb_lkL gb_lnL [437] 4) = true := by decide +kernel
theorem gl_nn_L_freeRooms : cl_L_freeRooms.all gl_nn = true := by decide +kernel
theorem gl_475 (hl : l.stackTraces = false) (a : Int32) (b : Int32) (σ : ga_M) (x : Int32) (σ' : ga_M) (hq : f_L_freeRooms_0_82 a b σ = some (.inl x, σ')) : gb_C l D cA ad A adV yL_freeRooms (gb_wsW yL_freeRooms cL_freeRooms 5 (some .int) [(0, 10, 13, 25), (0, 10, 17, 19)]) 4 2 12 [.ref 0, .int a, .int b, .ref 82] gaSH σ (.inl (some (.int x)), gaSH, σ') := by
  have hM : ∀ mid ∈ ([437] : List Nat), gc_MM l D cA ad A adV mid := (List.forall_mem_cons.mpr ⟨gm_437 hl, fun _ h => nomatch h⟩)
  exact gl_met (y := yL_freeRooms) (own := RL) (cc := cL_freeRooms) (cl := cl_L_freeRooms) (g := gaG) (cost := gaCost) (maxL := 5) (wr := true) (PS := fun S _ => S = gaSH) (pc0 := 5) (Z := [((0, 10, 13, 25), (3, 15, 4)), ((0, 10, 17, 19), (2, 19, 4))]) hl gl_pnL rfl gl_nn_L_freeRooms (List.forall_mem_cons.mpr ⟨⟨by decide, by decide, by decide, (gb_w5 111 rfl rfl), by decide, Or.inl ⟨by decide +kernel, rfl⟩⟩, List.forall_mem_cons.mpr ⟨⟨by decide, by decide, by decide, (gb_w5 87 rfl rfl), by decide, Or.inl ⟨by decide +kernel, rfl⟩⟩, fun _ h => nomatch h⟩⟩) gb_oL gc_rk_L_freeRooms
    (gc_hlk gb_nL hM (fun _ _ _ _ _ h => h) gf_398 gf_399 (fun _ _ h => h) gc_ck_L_freeRooms) (t_L_freeRooms_0_82 a b σ _ hq) rfl (fun _ _ _ _ h => h) (fun mid as S σ o h hg => (ge_at (ge_G mid as S σ) hg).trans h)
    (fun α mid as S σ k o h => (ge_G mid as S σ α k o h).elim fun o1 h1 => ⟨o1, h1.2⟩) gc_hoIXl (fun _ h => nomatch h) (fun v hv => by cases hv; exact Or.inl rfl) (Nat.le_of_ble_eq_true rfl) rfl
theorem gc_rk_L_openLesson : cl_L_openLesson.all (gb_rk gb_flL gb_slL gb_nlL gb_llL gb_tlL cL_openLesson) = true := by decide +kernel
theorem gc_ck_L_openLesson : cl_L_openLesson.all (gc_ck gb_lkL gb_lnL [438] 3) = true := by decide +kernel
theorem gl_nn_L_openLesson : cl_L_openLesson.all gl_nn = true := by decide +kernel
theorem gl_476 (hl : l.stackTraces = false) (a : Int32) (σ : ga_M) (x : Int32) (σ' : ga_M) (hq : f_L_openLesson_0_82 a σ = some (.inl x, σ')) : gb_C l D cA ad A adV yL_openLesson (gb_wsW yL_openLesson cL_openLesson 4 (some .int) [(0, 9, 12, 73)]) 3 1 6 [.ref 0, .int a, .ref 82] gaSH σ (.inl (some (.int x)), gaSH, σ') := by
  have hM : ∀ mid ∈ ([438] : List Nat), gc_MM l D cA ad A adV mid := (List.forall_mem_cons.mpr ⟨gm_438 hl, fun _ h => nomatch h⟩)
  exact gl_met (y := yL_openLesson) (own := RL) (cc := cL_openLesson) (cl := cl_L_openLesson) (g := gaG) (cost := gaCost) (maxL := 4) (wr := true) (PS := fun S _ => S = gaSH) (pc0 := 4) (Z := [((0, 9, 12, 73), (4, 13, 3))]) hl gl_pnL rfl gl_nn_L_openLesson (List.forall_mem_cons.mpr ⟨⟨by decide, by decide, by decide, (gb_w6 45 rfl rfl), by decide, Or.inr ⟨3, by decide +kernel, rfl, rfl⟩⟩, fun _ h => nomatch h⟩) gb_oL gc_rk_L_openLesson
    (gc_hlk gb_nL hM (fun _ _ _ _ _ h => h) gf_398 gf_399 (fun _ _ h => h) gc_ck_L_openLesson) (t_L_openLesson_0_82 a σ _ hq) rfl (fun _ _ _ _ h => h) (fun mid as S σ o h hg => (ge_at (ge_G mid as S σ) hg).trans h)
    (fun α mid as S σ k o h => (ge_G mid as S σ α k o h).elim fun o1 h1 => ⟨o1, h1.2⟩) gc_hoIXl (fun _ h => nomatch h) (fun v hv => by cases hv; exact Or.inl rfl) (Nat.le_of_ble_eq_true rfl) rfl
theorem gc_rk_L_difference : cl_L_difference.all (gb_rk gb_flL gb_slL gb_nlL gb_llL gb_tlL cL_difference) = true := by decide +kernel
theorem gc_ck_L_difference : cl_L_difference.all (gc_ck gb_lkL gb_lnL [439] 4) = true := by decide +kernel
theorem gl_nn_L_difference : cl_L_difference.all gl_nn = true := by decide +kernel
theorem gl_477 (hl : l.stackTraces = false) (a : Int32) (σ : ga_M) (x : Int32) (σ' : ga_M) (hq : f_L_difference_0_82 a σ = some (.inl x, σ')) : gb_C l D cA ad A adV yL_difference (gb_wsW yL_difference cL_difference 4 (some .int) [(0, 9, 12, 73)]) 4 1 6 [.ref 0, .int a, .ref 82] gaSH σ (.inl (some (.int x)), gaSH, σ') := by
  have hM : ∀ mid ∈ ([439] : List Nat), gc_MM l D cA ad A adV mid := (List.forall_mem_cons.mpr ⟨gm_439 hl, fun _ h => nomatch h⟩)
  exact gl_met (y := yL_difference) (own := RL) (cc := cL_difference) (cl := cl_L_difference) (g := gaG) (cost := gaCost) (maxL := 4) (wr := true) (PS := fun S _ => S = gaSH) (pc0 := 4) (Z := [((0, 9, 12, 73), (4, 13, 3))]) hl gl_pnL rfl gl_nn_L_difference (List.forall_mem_cons.mpr ⟨⟨by decide, by decide, by decide, (gb_w6 45 rfl rfl), by decide, Or.inr ⟨3, by decide +kernel, rfl, rfl⟩⟩, fun _ h => nomatch h⟩) gb_oL gc_rk_L_difference
    (gc_hlk gb_nL hM (fun _ _ _ _ _ h => h) gf_398 gf_399 (fun _ _ h => h) gc_ck_L_difference) (t_L_difference_0_82 a σ _ hq) rfl (fun _ _ _ _ h => h) (fun mid as S σ o h hg => (ge_at (ge_G mid as S σ) hg).trans h)
    (fun α mid as S σ k o h => (ge_G mid as S σ α k o h).elim fun o1 h1 => ⟨o1, h1.2⟩) gc_hoIXl (fun _ h => nomatch h) (fun v hv => by cases hv; exact Or.inl rfl) (Nat.le_of_ble_eq_true rfl) rfl
theorem gc_rk_L_windows : cl_L_windows.all (gb_rk gb_flL gb_slL gb_nlL gb_llL gb_tlL cL_windows) = true := by decide +kernel
theorem gc_ck_L_windows : cl_L_windows.all (gc_ck gb_lkL gb_lnL [440] 4) = true := by decide +kernel
theorem gl_nn_L_windows : cl_L_windows.all gl_nn = true := by decide +kernel
theorem gl_478 (hl : l.stackTraces = false) (a : Int32) (b : Int32) (σ : ga_M) (x : Int32) (σ' : ga_M) (hq : f_L_windows_0_82 a b σ = some (.inl x, σ')) : gb_C l D cA ad A adV yL_windows (gb_wsW yL_windows cL_windows 5 (some .int) [(0, 10, 13, 25)]) 4 2 12 [.ref 0, .int a, .int b, .ref 82] gaSH σ (.inl (some (.int x)), gaSH, σ') := by
  have hM : ∀ mid ∈ ([440] : List Nat), gc_MM l D cA ad A adV mid := (List.forall_mem_cons.mpr ⟨gm_440 hl, fun _ h => nomatch h⟩)
  exact gl_met (y := yL_windows) (own := RL) (cc := cL_windows) (cl := cl_L_windows) (g := gaG) (cost := gaCost) (maxL := 5) (wr := true) (PS := fun S _ => S = gaSH) (pc0 := 5) (Z := [((0, 10, 13, 25), (3, 15, 4))]) hl gl_pnL rfl gl_nn_L_windows (List.forall_mem_cons.mpr ⟨⟨by decide, by decide, by decide, (gb_w5 111 rfl rfl), by decide, Or.inl ⟨by decide +kernel, rfl⟩⟩, fun _ h => nomatch h⟩) gb_oL gc_rk_L_windows
    (gc_hlk gb_nL hM (fun _ _ _ _ _ h => h) gf_398 gf_399 (fun _ _ h => h) gc_ck_L_windows) (t_L_windows_0_82 a b σ _ hq) rfl (fun _ _ _ _ h => h) (fun mid as S σ o h hg => (ge_at (ge_G mid as S σ) hg).trans h)
    (fun α mid as S σ k o h => (ge_G mid as S σ α k o h).elim fun o1 h1 => ⟨o1, h1.2⟩) gc_hoIXl (fun _ h => nomatch h) (fun v hv => by cases hv; exact Or.inl rfl) (Nat.le_of_ble_eq_true rfl) rfl
theorem gc_rk_L_classWindows : cl_L_classWindows.all (gb_rk gb_flL gb_slL gb_nlL gb_llL gb_tlL cL_classWindows) = true := by decide +kernel
theorem gc_ck_L_classWindows : cl_L_classWindows.all (gc_ck gb_lkL gb_lnL [441] 4) = true := by decide +kernel
theorem gl_nn_L_classWindows : cl_L_classWindows.all gl_nn = true := by decide +kernel
theorem gl_479 (hl : l.stackTraces = false) (a : Int32) (b : Int32) (σ : ga_M) (x : Int32) (σ' : ga_M) (hq : f_L_classWindows_0_82 a b σ = some (.inl x, σ')) : gb_C l D cA ad A adV yL_classWindows (gb_wsW yL_classWindows cL_classWindows 5 (some .int) [(0, 10, 13, 25)]) 4 2 12 [.ref 0, .int a, .int b, .ref 82] gaSH σ (.inl (some (.int x)), gaSH, σ') := by
  have hM : ∀ mid ∈ ([441] : List Nat), gc_MM l D cA ad A adV mid := (List.forall_mem_cons.mpr ⟨gm_441 hl, fun _ h => nomatch h⟩)
  exact gl_met (y := yL_classWindows) (own := RL) (cc := cL_classWindows) (cl := cl_L_classWindows) (g := gaG) (cost := gaCost) (maxL := 5) (wr := true) (PS := fun S _ => S = gaSH) (pc0 := 5) (Z := [((0, 10, 13, 25), (3, 15, 4))]) hl gl_pnL rfl gl_nn_L_classWindows (List.forall_mem_cons.mpr ⟨⟨by decide, by decide, by decide, (gb_w5 111 rfl rfl), by decide, Or.inl ⟨by decide +kernel, rfl⟩⟩, fun _ h => nomatch h⟩) gb_oL gc_rk_L_classWindows
    (gc_hlk gb_nL hM (fun _ _ _ _ _ h => h) gf_398 gf_399 (fun _ _ h => h) gc_ck_L_classWindows) (t_L_classWindows_0_82 a b σ _ hq) rfl (fun _ _ _ _ h => h) (fun mid as S σ o h hg => (ge_at (ge_G mid as S σ) hg).trans h)
    (fun α mid as S σ k o h => (ge_G mid as S σ α k o h).elim fun o1 h1 => ⟨o1, h1.2⟩) gc_hoIXl (fun _ h => nomatch h) (fun v hv => by cases hv; exact Or.inl rfl) (Nat.le_of_ble_eq_true rfl) rfl
theorem gc_rk_L_writeReport : cl_L_writeReport.all (gb_rk gb_flL gb_slL gb_nlL gb_llL gb_tlL cL_writeReport) = true := by decide +kernel
theorem gc_ck_L_writeReport : cl_L_writeReport.all (gc_ck gb_lkL gb_lnL [442] 5) = true := by decide +kernel
theorem gl_nn_L_writeReport : cl_L_writeReport.all gl_nn = true := by decide +kernel
theorem gl_480 (hl : l.stackTraces = false) (a : Int32) (σ : ga_M) (x : Int32) (σ' : ga_M) (hq : f_L_writeReport_0_82 a σ = some (.inl x, σ')) : gb_C l D cA ad A adV yL_writeReport (gb_wsW yL_writeReport cL_writeReport 4 (some .int) [(0, 9, 12, 25)]) 5 1 6 [.ref 0, .int a, .ref 82] gaSH σ (.inl (some (.int x)), gaSH, σ') := by
  have hM : ∀ mid ∈ ([442] : List Nat), gc_MM l D cA ad A adV mid := (List.forall_mem_cons.mpr ⟨gm_442 hl, fun _ h => nomatch h⟩)
  exact gl_met (y := yL_writeReport) (own := RL) (cc := cL_writeReport) (cl := cl_L_writeReport) (g := gaG) (cost := gaCost) (maxL := 4) (wr := true) (PS := fun S _ => S = gaSH) (pc0 := 4) (Z := [((0, 9, 12, 25), (3, 13, 3))]) hl gl_pnL rfl gl_nn_L_writeReport (List.forall_mem_cons.mpr ⟨⟨by decide, by decide, by decide, (gb_w5 111 rfl rfl), by decide, Or.inr ⟨3, by decide +kernel, rfl, rfl⟩⟩, fun _ h => nomatch h⟩) gb_oL gc_rk_L_writeReport
    (gc_hlk gb_nL hM (fun _ _ _ _ _ h => h) gf_398 gf_399 (fun _ _ h => h) gc_ck_L_writeReport) (t_L_writeReport_0_82 a σ _ hq) rfl (fun _ _ _ _ h => h) (fun mid as S σ o h hg => (ge_at (ge_G mid as S σ) hg).trans h)
    (fun α mid as S σ k o h => (ge_G mid as S σ α k o h).elim fun o1 h1 => ⟨o1, h1.2⟩) gc_hoIXl (fun _ h => nomatch h) (fun v hv => by cases hv; exact Or.inl rfl) (Nat.le_of_ble_eq_true rfl) rfl
theorem gc_rk_L_reportByte : cl_L_reportByte.all (gb_rk gb_flL gb_slL gb_nlL gb_llL gb_tlL cL_reportByte) = true := by decide +kernel
theorem gc_ck_L_reportByte : cl_L_reportByte.all (gc_ck gb_lkL gb_lnL [443] 2) = true := by decide +kernel
theorem gl_nn_L_reportByte : cl_L_reportByte.all gl_nn = true := by decide +kernel
theorem gl_481 (hl : l.stackTraces = false) (a : Int32) (σ : ga_M) (x : Int32) (σ' : ga_M) (hq : f_L_reportByte_0_82 a σ = some (.inl x, σ')) : gb_C l D cA ad A adV yL_reportByte (gb_wsW yL_reportByte cL_reportByte 4 (some .int) [(0, 9, 12, 25)]) 2 1 6 [.ref 0, .int a, .ref 82] gaSH σ (.inl (some (.int x)), gaSH, σ') := by
  have hM : ∀ mid ∈ ([443] : List Nat), gc_MM l D cA ad A adV mid := (List.forall_mem_cons.mpr ⟨gm_443 hl, fun _ h => nomatch h⟩)
  exact gl_met (y := yL_reportByte) (own := RL) (cc := cL_reportByte) (cl := cl_L_reportByte) (g := gaG) (cost := gaCost) (maxL := 4) (wr := true) (PS := fun S _ => S = gaSH) (pc0 := 4) (Z := [((0, 9, 12, 25), (3, 13, 3))]) hl gl_pnL rfl gl_nn_L_reportByte (List.forall_mem_cons.mpr ⟨⟨by decide, by decide, by decide, (gb_w5 111 rfl rfl), by decide, Or.inr ⟨3, by decide +kernel, rfl, rfl⟩⟩, fun _ h => nomatch h⟩) gb_oL gc_rk_L_reportByte
    (gc_hlk gb_nL hM (fun _ _ _ _ _ h => h) gf_398 gf_399 (fun _ _ h => h) gc_ck_L_reportByte) (t_L_reportByte_0_82 a σ _ hq) rfl (fun _ _ _ _ h => h) (fun mid as S σ o h hg => (ge_at (ge_G mid as S σ) hg).trans h)
    (fun α mid as S σ k o h => (ge_G mid as S σ α k o h).elim fun o1 h1 => ⟨o1, h1.2⟩) gc_hoIXl (fun _ h => nomatch h) (fun v hv => by cases hv; exact Or.inl rfl) (Nat.le_of_ble_eq_true rfl) rfl
theorem gc_rk_L_undo : cl_L_undo.all (gb_rk gb_flL gb_slL gb_nlL gb_llL gb_tlL cL_undo) = true := by decide +kernel
theorem gc_ck_L_undo : cl_L_undo.all (gc_ck gb_lkL gb_lnL [444] 4) = true := by decide +kernel
theorem gl_nn_L_undo : cl_L_undo.all gl_nn = true := by decide +kernel
theorem gl_482 (hl : l.stackTraces = false) (σ : ga_M) (x : Int32) (σ' : ga_M) (hq : f_L_undo_0_82 σ = some (.inl x, σ')) : gb_C l D cA ad A adV yL_undo (gb_wsW yL_undo cL_undo 3 (some .int) [(0, 8, 11, 13)]) 4 1 6 [.ref 0, .ref 82] gaSH σ (.inl (some (.int x)), gaSH, σ') := by
  have hM : ∀ mid ∈ ([444] : List Nat), gc_MM l D cA ad A adV mid := (List.forall_mem_cons.mpr ⟨gm_444 hl, fun _ h => nomatch h⟩)
  exact gl_met (y := yL_undo) (own := RL) (cc := cL_undo) (cl := cl_L_undo) (g := gaG) (cost := gaCost) (maxL := 3) (wr := true) (PS := fun S _ => S = gaSH) (pc0 := 3) (Z := [((0, 8, 11, 13), (1, 12, 2))]) hl gl_pnL rfl gl_nn_L_undo (List.forall_mem_cons.mpr ⟨⟨by decide, by decide, by decide, (gb_w5 6 rfl rfl), by decide, Or.inr ⟨2, by decide +kernel, rfl, rfl⟩⟩, fun _ h => nomatch h⟩) gb_oL gc_rk_L_undo
    (gc_hlk gb_nL hM (fun _ _ _ _ _ h => h) gf_398 gf_399 (fun _ _ h => h) gc_ck_L_undo) (t_L_undo_0_82 σ _ hq) rfl (fun _ _ _ _ h => h) (fun mid as S σ o h hg => (ge_at (ge_G mid as S σ) hg).trans h)
    (fun α mid as S σ k o h => (ge_G mid as S σ α k o h).elim fun o1 h1 => ⟨o1, h1.2⟩) gc_hoIXl (fun _ h => nomatch h) (fun v hv => by cases hv; exact Or.inl rfl) (Nat.le_of_ble_eq_true rfl) rfl
end GL1
end
