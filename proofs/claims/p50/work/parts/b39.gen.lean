section GB7
variable {l : Launch} {D : va_G} {cA : Nat → ClassId} {ad : Nat → Nat} {A : Nat → Prop} {adV : Nat → Nat}
theorem gb_ws_good {y : MethodName} {cc : ByteArray} {n : Nat} {r : Option FieldType} : ∀ w ∈ gb_good, w ∈ gb_ws y cc n r := fun _ h => List.mem_cons_of_mem _ h
/-- a method that throws has the room for it -/
def gb_lvk (lev : Nat) (q : Nat × ga_E) : Bool := match q.2.1 with
  | .new _ => Nat.ble 5 lev
  | _ => true
theorem gb_lvk_at {lev : Nat} {cl : List (Nat × ga_E)} (h : cl.all (gb_lvk lev) = true) : ∀ pc idx len r1 r2 sw, ga_lk cl pc = some (.new idx, len, r1, r2, sw) → 5 ≤ lev := fun pc idx len r1 r2 sw hc => Nat.le_of_ble_eq_true (List.all_eq_true.mp h _ (gb_lk_mem hc))
/-- a method's contract, out of its run -/
theorem gb_met {α : Type} {y : MethodName} {own : String} {cc : ByteArray} {cl : List (Nat × ga_E)} {g : ga_G} {cost : Nat → Nat × Nat} {maxL lev mc ms : Nat} {ret : Option FieldType} {lf wr : Bool} {PS : ga_S → ga_M → Prop} {K0 : ga_O → Option α} {as : List Value} {S : ga_S} {σ : ga_M} {r : α} {o : ga_O}
    {fl : List (Nat × Nat × Nat)} {sl : List (Nat × Nat)} {nl ll : List (Nat × Int32)} {tl : List (Nat × Nat × Nat)}
    (hl : l.stackTraces = false) (hy : plainName y.cls = true) (hyo : y.cls = own) (hown : gb_Own own fl sl nl ll tl) (hck : cl.all (gb_rk fl sl nl ll tl cc) = true)
    (hlk : ∀ q ∈ cl, ((∃ i, q.2.1 = .invokevirtual i) ∨ (∃ i, q.2.1 = .invokestatic i) ∨ (∃ i, q.2.1 = .invokespecial i) ∧ q.2.2.2.1 ≠ 0) → (∀ as S σ, g ga_O q.2.2.2.1 as S σ some = none) ∨ gb_LkM g own q.2.1 q.2.2.2.1 q.2.2.2.2.1 ∨ gb_Lk l D cA ad A adV g cost PS own lev q.2.1 q.2.2.2.1 q.2.2.2.2.1 q.2.2.2.2.2)
    (hT : ga_T own cc (ga_lk cl) g cost (fun _ => []) gaCls 84 mc ms false lf wr none PS K0 (0, gb_L0 as maxL, [], S, σ, 0, 0) r)
    (hPS : PS S σ) (hwr : wr = true → ∀ S σ σ1, PS S σ → PS S σ1)
    (hg1 : ∀ mid as S σ o, PS S σ → g ga_O mid as S σ some = some o → PS o.2.1 o.2.2) (hg2 : ∀ (α : Type) mid as S σ (k : ga_O → Option α) o, g α mid as S σ k = some o → ∃ o1, g ga_O mid as S σ some = some o1 ∧ k o1 = some o)
    (ho : ∀ o', K0 o' = some r → PS o'.2.1 o'.2.2 → o' = o) (hof : ∀ E, o.1 = .inr E → ¬ o.2.1.length < 84) (hrt : ∀ v, o.1 = .inl v → gb_rt ret v)
    (hn : (gb_fl as).length ≤ maxL) (hlf : (!lf || as.all fun v => v.category == 1) = true) (hlev : cl.all (gb_lvk lev) = true := by decide +kernel) :
    gb_C l D cA ad A adV y (gb_ws y cc maxL ret) lev mc ms as S σ o := by
  refine vx_ofW (cc := cc) (maxL := maxL) (ret := ret) hy rfl ?_
  intro p e s m args below meth c s₁ B hml hout hPc
  obtain ⟨rfl, hP, hE⟩ := hPc
  have hx := B.exec
  have hb := B.bytes
  have hr := B.returns
  have hts := atoms_spec (ws := gb_ws y cc maxL ret) B.pre
  have hcls : s.vm.findClass own = some m.cls := hyo ▸ findClass_of_methodNamed B.named
  have hlocks : meth.locks = false := B.notSynchronized
  have hS : va_S A s.heap s.heap [] := va_S.rf
  have hgood : ∀ w ∈ gb_good, w.before (as.map (ga_v ad)).toArray s = true := fun w h => hts w (gb_ws_good w h)
  have hrow : ∀ pc r, ga_lk cl pc = some r → gb_rk fl sl nl ll tl cc (pc, r) = true := fun pc r h => List.all_eq_true.mp hck _ (gb_lk_mem h)
  have hdec : ∀ pc ins len r1 r2 sw, ga_lk cl pc = some (ins, len, r1, r2, sw) → decode cc pc = .ok (ins, len) ∧ ga_chk pc ins len r1 sw = true := by
    intro pc ins len r1 r2 sw h
    obtain ⟨h1, h2⟩ := Bool.and_eq_true_iff.mp (hrow _ _ h)
    exact ⟨of_decide_eq_true h1, (Bool.and_eq_true_iff.mp h2).1⟩
  have hfg : ∀ pc r idx ci k, ga_lk cl pc = some r → (fl.any fun z => z.1 == idx && z.2.1 == ci && z.2.2 == k) = true → ga_Fd own (as.map (ga_v ad)).toArray s (gb_ws y cc maxL ret) idx ci k ∨ ga_Fg own (as.map (ga_v ad)).toArray s (gb_ws y cc maxL ret) idx ci k := by
    intro pc r idx ci k _ h
    obtain ⟨C, T, N, ty, h1, h2, h3, h4, h5, h6, h7⟩ := hown.1 _ (gb_any3 h)
    exact Or.inr ⟨C, T, N, h1, h2, hgood _ h3, fun w hw => gb_ws_good w (h4 w hw)⟩
  have hfd : ∀ idx ci k, (fl.any fun z => z.1 == idx && z.2.1 == ci && z.2.2 == k) = true → (∀ q, vwCl[ci]? = some q → (q.2.1 k).2.2.2 = false) → ga_Fd own (as.map (ga_v ad)).toArray s (gb_ws y cc maxL ret) idx ci k := by
    intro idx ci k h hfin
    obtain ⟨C, T, N, ty, h1, h2, h3, h4, h5, h6, h7⟩ := hown.1 _ (gb_any3 h)
    exact ⟨C, T, N, ty, h1, h2, hgood _ h3, fun w hw => gb_ws_good w (h4 w hw), h5, h6, h7, fun h8 => by rw [hfin _ h1] at h8; cases h8⟩
  have hn1 : ∀ pc idx len r1 r2 sw, ga_lk cl pc = some (.new idx, len, r1, r2, sw) → 1000 ≤ r1 := fun pc idx len r1 r2 sw h => of_decide_eq_true (Bool.and_eq_true_iff.mp (Bool.and_eq_true_iff.mp (Bool.and_eq_true_iff.mp (hrow _ _ h)).2).2).1
  have hn2 : ∀ pc at' len r1 r2 sw, ga_lk cl pc ≠ some (.newarray at', len, r1, r2, sw) := fun pc at' len r1 r2 sw h => by
    have h1 := (Bool.and_eq_true_iff.mp (Bool.and_eq_true_iff.mp (hrow _ _ h)).2).2
    cases h1
  have ok : ga_Ok p l e (gb_rm lev mc ms) s m (as.map (ga_v ad)).toArray below meth c (vx_MQ below (gb_Qc D cA ad A o) (gb_XC D cA ad A o) (as.map (ga_v ad)).toArray s mc ms A) cc own (gb_ws y cc maxL ret) D cA ad A (ga_lk cl) g cost (fun _ => []) gaCls 84 mc ms false lf wr none gb_exn 0 0 (fun o' => o' = o) PS := by
    refine ⟨hx, hb, hcls, hts, hE.1, hE.2.2.2.2.2.2.2.2.2.1, hE.2.2.2.2.2.2.2.2.2.2, ⟨by simp [gb_rm], by simp [gb_rm], by simp only [gb_rm]; omega, by simp only [gb_rm]; omega⟩, (fun h => by cases h), (fun q h => by cases h), hdec, ?_, ?_, ?_, ?_, ?_, ⟨?_, ?_⟩, ?_, ⟨Or.inr ⟨Or.inr ⟨hn1, hn2⟩, rfl⟩, hwr, hg1, hg2⟩, ?_, gb_thrOk hl hx hb hlocks hout hcls gb_ws_good hts hE hof ?_ (gb_lvk_at hlev), gb_excOk hlocks hout, gb_catOk, gb_retOk hx hb hr hlocks hrt⟩
    · intro pc idx len r1 r2 sw h
      have h1 := (Bool.and_eq_true_iff.mp (Bool.and_eq_true_iff.mp (hrow _ _ h)).2).2
      obtain ⟨C, T, N, ty, h1, h2, h3, h4, h5, h6, h7⟩ := hown.1 _ (gb_any3 h1)
      exact ⟨C, T, N, h1, h2, hgood _ h3, fun w hw => gb_ws_good w (h4 w hw)⟩
    · intro pc idx len r1 r2 sw h
      have h1 := (Bool.and_eq_true_iff.mp (Bool.and_eq_true_iff.mp (hrow _ _ h)).2).2
      obtain ⟨h2, h3⟩ := Bool.and_eq_true_iff.mp h1
      obtain ⟨h4, h5⟩ := Bool.and_eq_true_iff.mp h2
      have h4 : sw.isEmpty = true := h4
      have hfin : ∀ q, vwCl[r1]? = some q → (q.2.1 r2).2.2.2 = false := by
        intro q hq
        dsimp only at h3
        rw [hq] at h3
        simpa using h3
      exact ⟨hfd idx r1 r2 h5 hfin, fun q hq => by rw [hfin q hq, h4]; rfl⟩
    · intro pc idx len r1 r2 sw h h9
      have h1 := (Bool.and_eq_true_iff.mp (Bool.and_eq_true_iff.mp (hrow _ _ h)).2).2
      have h2 := of_decide_eq_true (Bool.and_eq_true_iff.mp h1).1
      exact absurd h2 (by show ¬ 1000 ≤ r1; omega)
    · intro pc at' len r1 r2 sw h
      have h1 := (Bool.and_eq_true_iff.mp (Bool.and_eq_true_iff.mp (hrow _ _ h)).2).2
      cases h1
    · intro pc idx len r2 sw h
      have h1 := (Bool.and_eq_true_iff.mp (Bool.and_eq_true_iff.mp (hrow _ _ h)).2).2
      cases h1
    · intro pc idx len r1 r2 h
      have key : ∃ r, ga_lk cl pc = some r ∧ (decide (1000 ≤ r1) && sl.any fun z => z.1 == idx && z.2 == r1 - 1000) = true := by
        rcases h with h | h
        · exact ⟨_, h, (Bool.and_eq_true_iff.mp (Bool.and_eq_true_iff.mp (hrow _ _ h)).2).2⟩
        · exact ⟨_, h, (Bool.and_eq_true_iff.mp (Bool.and_eq_true_iff.mp (hrow _ _ h)).2).2⟩
      obtain ⟨_, _, h1⟩ := key
      obtain ⟨h2, h3⟩ := Bool.and_eq_true_iff.mp h1
      have h2 := of_decide_eq_true h2
      obtain ⟨tx, htx⟩ := hown.2.1 _ (gb_any2 h3)
      refine ⟨tx, ?_⟩
      have h5 := hE.2.1 _ htx
      have h5 : vk_R own idx tx (ad (1000 + (r1 - 1000))) s := h5
      rwa [show 1000 + (r1 - 1000) = r1 by omega] at h5
    · intro pc idx len r1 r2 q r' h
      have key : (nl.any fun w => w.1 == idx && w.2 == q.1) = true := by
        rcases h with h | h
        · exact (Bool.and_eq_true_iff.mp (Bool.and_eq_true_iff.mp (hrow _ _ h)).2).2
        · exact (Bool.and_eq_true_iff.mp (Bool.and_eq_true_iff.mp (hrow _ _ h)).2).2
      exact hgood _ (hown.2.2.1 _ (gb_anyi key))
    · intro pc idx len r1 r2 sw h
      have h1 := (Bool.and_eq_true_iff.mp (Bool.and_eq_true_iff.mp (hrow _ _ h)).2).2
      cases sw with
      | nil => cases h1
      | cons q r' => exact ⟨q, r', rfl, hgood _ (hown.2.2.2.1 _ (gb_anyi h1))⟩
    · refine gb_callOk (Nat.le_refl _) (Nat.le_refl _) (Nat.le_refl _) (Nat.le_refl _) hx hb hml hcls gb_ws_good hts hE hdec ?_
      intro pc ins len mid na sw h hi
      exact hlk _ (gb_lk_mem h) hi
    · intro pc idx len r1 r2 sw h h9
      have h1 := (Bool.and_eq_true_iff.mp (Bool.and_eq_true_iff.mp (hrow _ _ h)).2).2
      exact gb_thb_at hown (Bool.and_eq_true_iff.mp h1).2
  have hW := hT p l e (gb_rm lev mc ms) s m (as.map (ga_v ad)).toArray below meth c (vx_MQ below (gb_Qc D cA ad A o) (gb_XC D cA ad A o) (as.map (ga_v ad)).toArray s mc ms A) (gb_ws y cc maxL ret) D cA ad A gb_exn 0 0 (fun o' => o' = o) ok ho (gb_L0_lf hlf) hPS (Nat.zero_le _) (Nat.zero_le _) s.heap []
  rw [lg_entry_eq]
  exact hW _ ⟨hP.1, hP.2.1, hS, hP.2.2⟩ (by rw [hml]; exact gb_L0_L hn)
/-- .. with the script at hand -/
theorem gb_metS {α : Type} {y : MethodName} {own : String} {cc : ByteArray} {cl : List (Nat × ga_E)} {g : ga_G} {cost : Nat → Nat × Nat} {maxL lev mc ms : Nat} {ret : Option FieldType} {lf wr : Bool} {PS : ga_S → ga_M → Prop} {K0 : ga_O → Option α} {as : List Value} {S : ga_S} {σ : ga_M} {r : α} {o : ga_O}
    {fl : List (Nat × Nat × Nat)} {sl : List (Nat × Nat)} {nl ll : List (Nat × Int32)} {tl : List (Nat × Nat × Nat)}
    (hl : l.stackTraces = false) (hy : plainName y.cls = true) (hyo : y.cls = own) (hown : gb_Own own fl sl nl ll tl) (hck : cl.all (gb_rk fl sl nl ll tl cc) = true)
    (hlk : ∀ q ∈ cl, ((∃ i, q.2.1 = .invokevirtual i) ∨ (∃ i, q.2.1 = .invokestatic i) ∨ (∃ i, q.2.1 = .invokespecial i) ∧ q.2.2.2.1 ≠ 0) → (∀ as S σ, g ga_O q.2.2.2.1 as S σ some = none) ∨ gb_LkM g own q.2.1 q.2.2.2.1 q.2.2.2.2.1 ∨ gb_Lk l D cA ad A adV g cost PS own lev q.2.1 q.2.2.2.1 q.2.2.2.2.1 q.2.2.2.2.2)
    (hT : ga_T own cc (ga_lk cl) g cost (fun _ => []) gaCls 84 mc ms false lf wr (some (999, adV 1999, gw_xs adV)) PS K0 (0, gb_L0 as maxL, [], S, σ, 0, 0) r)
    (hPS : PS S σ) (hwr : wr = true → ∀ S σ σ1, PS S σ → PS S σ1)
    (hg1 : ∀ mid as S σ o, PS S σ → g ga_O mid as S σ some = some o → PS o.2.1 o.2.2) (hg2 : ∀ (α : Type) mid as S σ (k : ga_O → Option α) o, g α mid as S σ k = some o → ∃ o1, g ga_O mid as S σ some = some o1 ∧ k o1 = some o)
    (ho : ∀ o', K0 o' = some r → PS o'.2.1 o'.2.2 → o' = o) (hof : ∀ E, o.1 = .inr E → ¬ o.2.1.length < 84) (hrt : ∀ v, o.1 = .inl v → gb_rt ret v)
    (hn : (gb_fl as).length ≤ maxL) (hlf : (!lf || as.all fun v => v.category == 1) = true) (hlev : cl.all (gb_lvk lev) = true := by decide +kernel) :
    gb_C l D cA ad A adV y (gb_ws y cc maxL ret) lev mc ms as S σ o := by
  refine vx_ofW (cc := cc) (maxL := maxL) (ret := ret) hy rfl ?_
  intro p e s m args below meth c s₁ B hml hout hPc
  obtain ⟨rfl, hP, hE⟩ := hPc
  have hx := B.exec
  have hb := B.bytes
  have hr := B.returns
  have hts := atoms_spec (ws := gb_ws y cc maxL ret) B.pre
  have hcls : s.vm.findClass own = some m.cls := hyo ▸ findClass_of_methodNamed B.named
  have hlocks : meth.locks = false := B.notSynchronized
  have hS : va_S A s.heap s.heap [] := va_S.rf
  have hgood : ∀ w ∈ gb_good, w.before (as.map (ga_v ad)).toArray s = true := fun w h => hts w (gb_ws_good w h)
  have hrow : ∀ pc r, ga_lk cl pc = some r → gb_rk fl sl nl ll tl cc (pc, r) = true := fun pc r h => List.all_eq_true.mp hck _ (gb_lk_mem h)
  have hdec : ∀ pc ins len r1 r2 sw, ga_lk cl pc = some (ins, len, r1, r2, sw) → decode cc pc = .ok (ins, len) ∧ ga_chk pc ins len r1 sw = true := by
    intro pc ins len r1 r2 sw h
    obtain ⟨h1, h2⟩ := Bool.and_eq_true_iff.mp (hrow _ _ h)
    exact ⟨of_decide_eq_true h1, (Bool.and_eq_true_iff.mp h2).1⟩
  have hfg : ∀ pc r idx ci k, ga_lk cl pc = some r → (fl.any fun z => z.1 == idx && z.2.1 == ci && z.2.2 == k) = true → ga_Fd own (as.map (ga_v ad)).toArray s (gb_ws y cc maxL ret) idx ci k ∨ ga_Fg own (as.map (ga_v ad)).toArray s (gb_ws y cc maxL ret) idx ci k := by
    intro pc r idx ci k _ h
    obtain ⟨C, T, N, ty, h1, h2, h3, h4, h5, h6, h7⟩ := hown.1 _ (gb_any3 h)
    exact Or.inr ⟨C, T, N, h1, h2, hgood _ h3, fun w hw => gb_ws_good w (h4 w hw)⟩
  have hfd : ∀ idx ci k, (fl.any fun z => z.1 == idx && z.2.1 == ci && z.2.2 == k) = true → (∀ q, vwCl[ci]? = some q → (q.2.1 k).2.2.2 = false) → ga_Fd own (as.map (ga_v ad)).toArray s (gb_ws y cc maxL ret) idx ci k := by
    intro idx ci k h hfin
    obtain ⟨C, T, N, ty, h1, h2, h3, h4, h5, h6, h7⟩ := hown.1 _ (gb_any3 h)
    exact ⟨C, T, N, ty, h1, h2, hgood _ h3, fun w hw => gb_ws_good w (h4 w hw), h5, h6, h7, fun h8 => by rw [hfin _ h1] at h8; cases h8⟩
  have hn1 : ∀ pc idx len r1 r2 sw, ga_lk cl pc = some (.new idx, len, r1, r2, sw) → 1000 ≤ r1 := fun pc idx len r1 r2 sw h => of_decide_eq_true (Bool.and_eq_true_iff.mp (Bool.and_eq_true_iff.mp (Bool.and_eq_true_iff.mp (hrow _ _ h)).2).2).1
  have hn2 : ∀ pc at' len r1 r2 sw, ga_lk cl pc ≠ some (.newarray at', len, r1, r2, sw) := fun pc at' len r1 r2 sw h => by
    have h1 := (Bool.and_eq_true_iff.mp (Bool.and_eq_true_iff.mp (hrow _ _ h)).2).2
    cases h1
  have ok : ga_Ok p l e (gb_rm lev mc ms) s m (as.map (ga_v ad)).toArray below meth c (vx_MQ below (gb_Qc D cA ad A o) (gb_XC D cA ad A o) (as.map (ga_v ad)).toArray s mc ms A) cc own (gb_ws y cc maxL ret) D cA ad A (ga_lk cl) g cost (fun _ => []) gaCls 84 mc ms false lf wr (some (999, adV 1999, gw_xs adV)) gb_exn 0 0 (fun o' => o' = o) PS := by
    refine ⟨hx, hb, hcls, hts, hE.1, hE.2.2.2.2.2.2.2.2.2.1, hE.2.2.2.2.2.2.2.2.2.2, ⟨by simp [gb_rm], by simp [gb_rm], by simp only [gb_rm]; omega, by simp only [gb_rm]; omega⟩, (fun h => by cases h), (fun q h => by cases h; exact hE.2.2.2.2.2.2.2.1.2.2), hdec, ?_, ?_, ?_, ?_, ?_, ⟨?_, ?_⟩, ?_, ⟨Or.inr ⟨Or.inr ⟨hn1, hn2⟩, rfl⟩, hwr, hg1, hg2⟩, ?_, gb_thrOk hl hx hb hlocks hout hcls gb_ws_good hts hE hof ?_ (gb_lvk_at hlev), gb_excOk hlocks hout, gb_catOk, gb_retOk hx hb hr hlocks hrt⟩
    · intro pc idx len r1 r2 sw h
      have h1 := (Bool.and_eq_true_iff.mp (Bool.and_eq_true_iff.mp (hrow _ _ h)).2).2
      obtain ⟨C, T, N, ty, h1, h2, h3, h4, h5, h6, h7⟩ := hown.1 _ (gb_any3 h1)
      exact ⟨C, T, N, h1, h2, hgood _ h3, fun w hw => gb_ws_good w (h4 w hw)⟩
    · intro pc idx len r1 r2 sw h
      have h1 := (Bool.and_eq_true_iff.mp (Bool.and_eq_true_iff.mp (hrow _ _ h)).2).2
      obtain ⟨h2, h3⟩ := Bool.and_eq_true_iff.mp h1
      obtain ⟨h4, h5⟩ := Bool.and_eq_true_iff.mp h2
      have h4 : sw.isEmpty = true := h4
      have hfin : ∀ q, vwCl[r1]? = some q → (q.2.1 r2).2.2.2 = false := by
        intro q hq
        dsimp only at h3
        rw [hq] at h3
        simpa using h3
      exact ⟨hfd idx r1 r2 h5 hfin, fun q hq => by rw [hfin q hq, h4]; rfl⟩
    · intro pc idx len r1 r2 sw h h9
      have h1 := (Bool.and_eq_true_iff.mp (Bool.and_eq_true_iff.mp (hrow _ _ h)).2).2
      have h2 := of_decide_eq_true (Bool.and_eq_true_iff.mp h1).1
      exact absurd h2 (by show ¬ 1000 ≤ r1; omega)
    · intro pc at' len r1 r2 sw h
      have h1 := (Bool.and_eq_true_iff.mp (Bool.and_eq_true_iff.mp (hrow _ _ h)).2).2
      cases h1
    · intro pc idx len r2 sw h
      have h1 := (Bool.and_eq_true_iff.mp (Bool.and_eq_true_iff.mp (hrow _ _ h)).2).2
      cases h1
    · intro pc idx len r1 r2 h
      have key : ∃ r, ga_lk cl pc = some r ∧ (decide (1000 ≤ r1) && sl.any fun z => z.1 == idx && z.2 == r1 - 1000) = true := by
        rcases h with h | h
        · exact ⟨_, h, (Bool.and_eq_true_iff.mp (Bool.and_eq_true_iff.mp (hrow _ _ h)).2).2⟩
        · exact ⟨_, h, (Bool.and_eq_true_iff.mp (Bool.and_eq_true_iff.mp (hrow _ _ h)).2).2⟩
      obtain ⟨_, _, h1⟩ := key
      obtain ⟨h2, h3⟩ := Bool.and_eq_true_iff.mp h1
      have h2 := of_decide_eq_true h2
      obtain ⟨tx, htx⟩ := hown.2.1 _ (gb_any2 h3)
      refine ⟨tx, ?_⟩
      have h5 := hE.2.1 _ htx
      have h5 : vk_R own idx tx (ad (1000 + (r1 - 1000))) s := h5
      rwa [show 1000 + (r1 - 1000) = r1 by omega] at h5
    · intro pc idx len r1 r2 q r' h
      have key : (nl.any fun w => w.1 == idx && w.2 == q.1) = true := by
        rcases h with h | h
        · exact (Bool.and_eq_true_iff.mp (Bool.and_eq_true_iff.mp (hrow _ _ h)).2).2
        · exact (Bool.and_eq_true_iff.mp (Bool.and_eq_true_iff.mp (hrow _ _ h)).2).2
      exact hgood _ (hown.2.2.1 _ (gb_anyi key))
    · intro pc idx len r1 r2 sw h
      have h1 := (Bool.and_eq_true_iff.mp (Bool.and_eq_true_iff.mp (hrow _ _ h)).2).2
      cases sw with
      | nil => cases h1
      | cons q r' => exact ⟨q, r', rfl, hgood _ (hown.2.2.2.1 _ (gb_anyi h1))⟩
    · refine gb_callOk (Nat.le_refl _) (Nat.le_refl _) (Nat.le_refl _) (Nat.le_refl _) hx hb hml hcls gb_ws_good hts hE hdec ?_
      intro pc ins len mid na sw h hi
      exact hlk _ (gb_lk_mem h) hi
    · intro pc idx len r1 r2 sw h h9
      have h1 := (Bool.and_eq_true_iff.mp (Bool.and_eq_true_iff.mp (hrow _ _ h)).2).2
      exact gb_thb_at hown (Bool.and_eq_true_iff.mp h1).2
  have hW := hT p l e (gb_rm lev mc ms) s m (as.map (ga_v ad)).toArray below meth c (vx_MQ below (gb_Qc D cA ad A o) (gb_XC D cA ad A o) (as.map (ga_v ad)).toArray s mc ms A) (gb_ws y cc maxL ret) D cA ad A gb_exn 0 0 (fun o' => o' = o) ok ho (gb_L0_lf hlf) hPS (Nat.zero_le _) (Nat.zero_le _) s.heap []
  rw [lg_entry_eq]
  exact hW _ ⟨hP.1, hP.2.1, hS, hP.2.2⟩ (by rw [hml]; exact gb_L0_L hn)
end GB7
