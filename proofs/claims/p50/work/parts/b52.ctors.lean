noncomputable section
section GK0
/-! ===== constructors: shapes that grow ===== -/
def gk_kS : ga_O → Option (ga_S × ga_M)
  | (.inl none, S, σ) => some (S, σ)
  | _ => none
theorem gk_ho {S : ga_S} {s : ga_M} : ∀ o', gk_kS o' = some (S, s) → o' = (.inl none, S, s) := by
  rintro ⟨(_ | v) | E, S', σ'⟩ h
  · cases h; rfl
  · cases h
  · cases h
/-- all of a class, to make one -/
def gk_Cl (ci : Nat) : Prop := ∃ (C : String) (T : u_T) (N : Nat) (ty : Nat → FieldType), vwCl[ci]? = some (C, T, N) ∧ (∀ w ∈ u_ws C T N, w ∈ gb_good) ∧ (∀ k, k < N → parseFieldDescriptor (T k).2.2.1 = some (ty k)) ∧ (∀ a, a < N → ∀ b, b < N → a ≠ b → (T a).2.1 ≠ (T b).2.1) ∧ (∀ k, k < N → (T k).2.2.2 = false → ty k = .int) ∧
  (∀ k, k < N → (T k).2.2.2 = true → (T k).1 = C ∧ ∀ a, narrow (ty k) (.ref a) = .ref a ∧ fits (ty k) (.ref a) = true) ∧ (∀ j, j < N → ((gaCls ci)[j]? = some none ∧ defaultValue (ty j) = .int 0) ∨ ((gaCls ci)[j]? = some (some none) ∧ defaultValue (ty j) = .null)) ∧ Cond.instantiable C N ∈ gb_good ∧ Cond.initialized C ∈ gb_good
/-- what a class's constant pool has beside: classes that are made, Object's constructor -/
def gk_Own (own : String) (nwl : List (Nat × Nat)) (oil : List Nat) : Prop :=
  (∀ q ∈ nwl, ∀ C, vwCl[q.2]? = some C → Cond.classLink own q.1 C.1 ∈ gb_good) ∧ ∀ i ∈ oil, Cond.methodLink own i objectInit ∈ gb_good
def gk_Wd : Prop := (∀ ci, ci < 12 → gk_Cl ci) ∧ Cond.instanceMethod objectInit ∈ gb_good ∧ Cond.code objectInit ⟨#[0xb1]⟩ 1 none ∈ gb_good ∧ Cond.arrayClass .int ∈ gb_good ∧ Cond.arrayClass .byte ∈ gb_good
def gk_rk (own : String) (fl : List (Nat × Nat × Nat)) (sl : List (Nat × Nat)) (nl ll : List (Nat × Int32)) (tl : List (Nat × Nat × Nat)) (nwl : List (Nat × Nat)) (oil : List Nat) (cc : ByteArray) (q : Nat × ga_E) : Bool := match q.2.1 with
  | .new idx => decide (decode cc q.1 = .ok (q.2.1, q.2.2.1)) && (ga_chk q.1 q.2.1 q.2.2.1 q.2.2.2.1 q.2.2.2.2.2 && (nwl.any (fun z => Nat.beq z.1 idx && Nat.beq z.2 q.2.2.2.1) && (match vwCl[q.2.2.2.1]? with
      | some C => Nat.beq C.2.2 q.2.2.2.2.1
      | none => false)))
  | .newarray .int => decide (decode cc q.1 = .ok (q.2.1, q.2.2.1)) && (ga_chk q.1 q.2.1 q.2.2.1 q.2.2.2.1 q.2.2.2.2.2 && Nat.beq q.2.2.2.1 0)
  | .newarray .byte => decide (decode cc q.1 = .ok (q.2.1, q.2.2.1)) && (ga_chk q.1 q.2.1 q.2.2.1 q.2.2.2.1 q.2.2.2.2.2 && Nat.beq q.2.2.2.1 1)
  | .invokespecial idx => decide (decode cc q.1 = .ok (q.2.1, q.2.2.1)) && (ga_chk q.1 q.2.1 q.2.2.1 q.2.2.2.1 q.2.2.2.2.2 && (bif Nat.beq q.2.2.2.1 0 then oil.any (fun z => Nat.beq z idx) else true))
  | .putfield idx => decide (decode cc q.1 = .ok (q.2.1, q.2.2.1)) && (ga_chk q.1 q.2.1 q.2.2.1 q.2.2.2.1 q.2.2.2.2.2 && ((fl.any fun z => z.1 == idx && z.2.1 == q.2.2.2.1 && z.2.2 == q.2.2.2.2.1) && (match vwCl[q.2.2.2.1]? with
      | some C => (C.2.1 q.2.2.2.2.1).2.2.2 == !q.2.2.2.2.2.isEmpty && decide (C.1 = own)
      | none => false)))
  | _ => gb_rk fl sl nl ll tl cc q
variable {p : Program} {l : Launch} {e : Env} {s : State} {m : MethodId} {args : Array Value} {below : List Frame} {meth : Method} {c : Code}
variable {D : va_G} {cA : Nat → ClassId} {ad : Nat → Nat} {A : Nat → Prop} {adV : Nat → Nat}
theorem gk_rk_dec {own : String} {cc : ByteArray} {fl : List (Nat × Nat × Nat)} {sl : List (Nat × Nat)} {nl ll : List (Nat × Int32)} {tl : List (Nat × Nat × Nat)} {nwl : List (Nat × Nat)} {oil : List Nat} {pc : Nat} {ins : Instr} {len r1 r2 : Nat} {sw : List (Int32 × Nat)} (h : gk_rk own fl sl nl ll tl nwl oil cc (pc, ins, len, r1, r2, sw) = true) : decode cc pc = .ok (ins, len) ∧ ga_chk pc ins len r1 sw = true := by
  unfold gk_rk at h
  dsimp only at h
  split at h
  all_goals first
    | exact ⟨of_decide_eq_true (Bool.and_eq_true_iff.mp h).1, (Bool.and_eq_true_iff.mp (Bool.and_eq_true_iff.mp h).2).1⟩
    | (obtain ⟨h1, h2⟩ := Bool.and_eq_true_iff.mp h; exact ⟨of_decide_eq_true h1, (Bool.and_eq_true_iff.mp h2).1⟩)
theorem gk_rows {own : String} {cc : ByteArray} {cl : List (Nat × ga_E)} {fl : List (Nat × Nat × Nat)} {sl : List (Nat × Nat)} {nl ll : List (Nat × Int32)} {tl : List (Nat × Nat × Nat)} {nwl : List (Nat × Nat)} {oil : List Nat} {Ts : List Cond}
    (hown : gb_Own own fl sl nl ll tl) (hown2 : gk_Own own nwl oil) (hwd : gk_Wd) (hck : cl.all (gk_rk own fl sl nl ll tl nwl oil cc) = true) (hT : ∀ w ∈ gb_good, w ∈ Ts) (hts : ∀ w ∈ Ts, w.before args s = true) (hE : gb_E D cA ad A adV s s.heap) :
    (∀ pc ins len r1 r2 sw, ga_lk cl pc = some (ins, len, r1, r2, sw) → decode cc pc = .ok (ins, len) ∧ ga_chk pc ins len r1 sw = true) ∧
    (∀ pc idx len r1 r2 sw, ga_lk cl pc = some (.getfield idx, len, r1, r2, sw) → ga_Fg own args s Ts idx r1 r2) ∧
    (∀ pc idx len r1 r2 sw, ga_lk cl pc = some (.putfield idx, len, r1, r2, sw) → ga_Fd own args s Ts idx r1 r2 ∧ ∀ q, vwCl[r1]? = some q → (q.2.1 r2).2.2.2 = !sw.isEmpty) ∧
    (∀ pc idx len r1 r2 sw, ga_lk cl pc = some (.new idx, len, r1, r2, sw) → r1 < 1000 → ∃ (C : String) (T : u_T) (ty : Nat → FieldType), vwCl[r1]? = some (C, T, r2) ∧ (∀ w ∈ u_ws C T r2, w ∈ Ts) ∧ (∀ k, k < r2 → parseFieldDescriptor (T k).2.2.1 = some (ty k)) ∧ (Cond.classLink own idx C).before args s = true ∧ (Cond.instantiable C r2).before args s = true ∧ (Cond.initialized C).before args s = true ∧ (∀ j, j < r2 → ((gaCls r1)[j]? = some none ∧ defaultValue (ty j) = .int 0) ∨ ((gaCls r1)[j]? = some (some none) ∧ defaultValue (ty j) = .null))) ∧
    (∀ pc at' len r1 r2 sw, ga_lk cl pc = some (.newarray at', len, r1, r2, sw) → (Cond.arrayClass (newarray.typeOf at')).before args s = true ∧ ∃ ty, newarray.typeOf at' = ty ∧ (ga_tys cA)[r1]? = some (cA r1, ty) ∧ defaultValue ty = (if r1 = 2 then .long 0 else .int 0) ∧ (∀ C, ty ≠ .object C) ∧ componentBytes ty ≤ 8) ∧
    (∀ pc idx len r2 sw, ga_lk cl pc = some (.invokespecial idx, len, 0, r2, sw) → (Cond.methodLink own idx objectInit).before args s = true ∧ (Cond.instanceMethod objectInit).before args s = true ∧ (Cond.code objectInit ⟨#[0xb1]⟩ 1 none).before args s = true) ∧
    ((∀ pc idx len r1 r2, (ga_lk cl pc = some (.ldc idx, len, r1, r2, []) ∨ ga_lk cl pc = some (.ldc_w idx, len, r1, r2, [])) → ∃ tx, vk_R own idx tx (ad r1) s) ∧ ∀ pc idx len r1 r2 q r, (ga_lk cl pc = some (.ldc idx, len, r1, r2, q :: r) ∨ ga_lk cl pc = some (.ldc_w idx, len, r1, r2, q :: r)) → (Jvm.Cond.constant own idx q.1).before args s = true) ∧
    (∀ pc idx len r1 r2 sw, ga_lk cl pc = some (.ldc2_w idx, len, r1, r2, sw) → ∃ q r, sw = q :: r ∧ (Cond.constantDouble own idx (FP.i2d q.1)).before args s = true) := by
  have hgood : ∀ w ∈ gb_good, w.before args s = true := fun w h => hts w (hT w h)
  have hrow : ∀ pc r, ga_lk cl pc = some r → gk_rk own fl sl nl ll tl nwl oil cc (pc, r) = true := fun pc r h => List.all_eq_true.mp hck _ (gb_lk_mem h)
  refine ⟨fun pc ins len r1 r2 sw h => gk_rk_dec (own := own) (hrow _ _ h), ?_, ?_, ?_, ?_, ?_, ⟨?_, ?_⟩, ?_⟩
  · intro pc idx len r1 r2 sw h
    have h1 := (Bool.and_eq_true_iff.mp (Bool.and_eq_true_iff.mp (show gb_rk fl sl nl ll tl cc (pc, .getfield idx, len, r1, r2, sw) = true from hrow _ _ h)).2).2
    obtain ⟨C, T, N, ty, h1, h2, h3, h4, h5, h6, h7⟩ := hown.1 _ (gb_any3 h1)
    exact ⟨C, T, N, h1, h2, hgood _ h3, fun w hw => hT w (h4 w hw)⟩
  · intro pc idx len r1 r2 sw h
    have h1 := (Bool.and_eq_true_iff.mp (Bool.and_eq_true_iff.mp (hrow _ _ h)).2).2
    obtain ⟨h2, h3⟩ := Bool.and_eq_true_iff.mp h1
    have h2 : (fl.any fun z => z.1 == idx && z.2.1 == r1 && z.2.2 == r2) = true := h2
    have h3 : (match vwCl[r1]? with
      | some C => (C.2.1 r2).2.2.2 == !sw.isEmpty && decide (C.1 = own)
      | none => false) = true := h3
    obtain ⟨C, T, N, ty, k1, k2, k3, k4, k5, k6, k7⟩ := hown.1 _ (gb_any3 h2)
    have k1 : vwCl[r1]? = some (C, T, N) := k1
    have hlt : r1 < 12 := (List.getElem?_eq_some_iff.mp k1).1
    obtain ⟨C2, T2, N2, ty2, g1, g2, g3, g4, g5, g6, g7, g8, g9⟩ := hwd.1 r1 hlt
    have e9 := Option.some.inj (g1.symm.trans k1)
    have e1 := congrArg (fun z => z.1) e9
    have e2 := congrArg (fun z => z.2.1) e9
    have e3 := congrArg (fun z => z.2.2) e9
    dsimp only at e1 e2 e3
    clear e9
    subst e1
    subst e2
    subst e3
    rw [k1] at h3
    obtain ⟨h3, h3o⟩ := Bool.and_eq_true_iff.mp h3
    have h3 : (T2 r2).2.2.2 = !sw.isEmpty := by simpa using h3
    have h3o : C2 = own := of_decide_eq_true h3o
    refine ⟨⟨C2, T2, N2, ty2, k1, k2, hgood _ k3, fun w hw => hT w (g2 w hw), g3, g4, fun h8 => g5 _ k2 h8, fun h8 => ?_⟩, fun q hq => ?_⟩
    · obtain ⟨y1, y2⟩ := g6 _ k2 h8
      exact ⟨y1.trans h3o, y2⟩
    · have := Option.some.inj (hq.symm.trans k1)
      rw [this]; exact h3
  · intro pc idx len r1 r2 sw h hr1
    have h1 := (Bool.and_eq_true_iff.mp (Bool.and_eq_true_iff.mp (hrow _ _ h)).2).2
    obtain ⟨h2, h3⟩ := Bool.and_eq_true_iff.mp h1
    have hmem : (idx, r1) ∈ nwl := gc_any2 h2
    have h3 : (match vwCl[r1]? with
      | some C => Nat.beq C.2.2 r2
      | none => false) = true := h3
    cases hv : vwCl[r1]? with
    | none => rw [hv] at h3; cases h3
    | some C0 =>
      rw [hv] at h3
      have hlt : r1 < 12 := (List.getElem?_eq_some_iff.mp hv).1
      obtain ⟨C, T, N, ty, g1, g2, g3, g4, g5, g6, g7, g8, g9⟩ := hwd.1 r1 hlt
      have e9 := Option.some.inj (hv.symm.trans g1)
      subst e9
      have e8 : N = r2 := Nat.eq_of_beq_eq_true h3
      subst e8
      exact ⟨C, T, ty, rfl, fun w hw => hT w (g2 w hw), g3, hgood _ (hown2.1 (idx, r1) hmem (C, T, N) hv), hgood _ g8, hgood _ g9, g7⟩
  · intro pc at' len r1 r2 sw h
    have h0 := hrow _ _ h
    cases at'
    case int =>
      have h1 := (Bool.and_eq_true_iff.mp (Bool.and_eq_true_iff.mp h0).2).2
      obtain rfl := Nat.eq_of_beq_eq_true h1
      exact ⟨hgood _ hwd.2.2.2.1, .int, rfl, rfl, rfl, (fun C hC => nomatch hC), by decide⟩
    case byte =>
      have h1 := (Bool.and_eq_true_iff.mp (Bool.and_eq_true_iff.mp h0).2).2
      obtain rfl := Nat.eq_of_beq_eq_true h1
      exact ⟨hgood _ hwd.2.2.2.2, .byte, rfl, rfl, rfl, (fun C hC => nomatch hC), by decide⟩
    all_goals
      have h1 := (Bool.and_eq_true_iff.mp (Bool.and_eq_true_iff.mp h0).2).2
      cases h1
  · intro pc idx len r2 sw h
    have h1 := (Bool.and_eq_true_iff.mp (Bool.and_eq_true_iff.mp (hrow _ _ h)).2).2
    have h1 : oil.any (fun z => Nat.beq z idx) = true := h1
    exact ⟨hgood _ (hown2.2 _ (gc_any h1)), hgood _ hwd.2.1, hgood _ hwd.2.2.1⟩
  · intro pc idx len r1 r2 h
    have key : ∃ r, ga_lk cl pc = some r ∧ (decide (1000 ≤ r1) && sl.any fun z => z.1 == idx && z.2 == r1 - 1000) = true := by
      rcases h with h | h
      · exact ⟨_, h, (Bool.and_eq_true_iff.mp (Bool.and_eq_true_iff.mp (show gb_rk fl sl nl ll tl cc (pc, .ldc idx, len, r1, r2, []) = true from hrow _ _ h)).2).2⟩
      · exact ⟨_, h, (Bool.and_eq_true_iff.mp (Bool.and_eq_true_iff.mp (show gb_rk fl sl nl ll tl cc (pc, .ldc_w idx, len, r1, r2, []) = true from hrow _ _ h)).2).2⟩
    obtain ⟨_, _, h1⟩ := key
    obtain ⟨h2, h3⟩ := Bool.and_eq_true_iff.mp h1
    have h2 := of_decide_eq_true h2
    obtain ⟨tx, htx⟩ := hown.2.1 _ (gb_any2 h3)
    refine ⟨tx, ?_⟩
    have h5 : vk_R own idx tx (ad (1000 + (r1 - 1000))) s := hE.2.1 _ htx
    rwa [show 1000 + (r1 - 1000) = r1 by omega] at h5
  · intro pc idx len r1 r2 q r' h
    have key : (nl.any fun w => w.1 == idx && w.2 == q.1) = true := by
      rcases h with h | h
      · exact (Bool.and_eq_true_iff.mp (Bool.and_eq_true_iff.mp (show gb_rk fl sl nl ll tl cc (pc, .ldc idx, len, r1, r2, q :: r') = true from hrow _ _ h)).2).2
      · exact (Bool.and_eq_true_iff.mp (Bool.and_eq_true_iff.mp (show gb_rk fl sl nl ll tl cc (pc, .ldc_w idx, len, r1, r2, q :: r') = true from hrow _ _ h)).2).2
    exact hgood _ (hown.2.2.1 _ (gb_anyi key))
  · intro pc idx len r1 r2 sw h
    have h1 := (Bool.and_eq_true_iff.mp (Bool.and_eq_true_iff.mp (show gb_rk fl sl nl ll tl cc (pc, .ldc2_w idx, len, r1, r2, sw) = true from hrow _ _ h)).2).2
    cases sw with
    | nil => cases h1
    | cons q r' => exact ⟨q, r', rfl, hgood _ (hown.2.2.2.1 _ (gb_anyi h1))⟩
end GK0
section GK1
variable {l : Launch} {D : va_G} {cA : Nat → ClassId} {ad : Nat → Nat} {A : Nat → Prop} {adV : Nat → Nat}
def gk_nt (q : Nat × ga_E) : Bool := match q.2.1 with
  | .new _ => Nat.blt q.2.2.2.1 1000
  | _ => true
/-- a constructor's contract, out of its run -/
theorem gk_met {y : MethodName} {own : String} {cc : ByteArray} {cl : List (Nat × ga_E)} {g : ga_G} {cost : Nat → Nat × Nat} {maxL lev mc ms : Nat} {as : List Value} {S S' : ga_S} {σ σ' : ga_M} {lf : Bool}
    {fl : List (Nat × Nat × Nat)} {sl : List (Nat × Nat)} {nl ll : List (Nat × Int32)} {tl : List (Nat × Nat × Nat)} {nwl : List (Nat × Nat)} {oil : List Nat}
    (hy : plainName own = true) (hyo : y.cls = own) (hin : y.name = "<init>") (hown : gb_Own own fl sl nl ll tl) (hown2 : gk_Own own nwl oil) (hwd : gk_Wd) (hck : cl.all (gk_rk own fl sl nl ll tl nwl oil cc) = true) (hnt : cl.all gk_nt = true)
    (hlk : ∀ q ∈ cl, ((∃ i, q.2.1 = .invokevirtual i) ∨ (∃ i, q.2.1 = .invokestatic i) ∨ (∃ i, q.2.1 = .invokespecial i) ∧ q.2.2.2.1 ≠ 0) → (∀ as S σ, g ga_O q.2.2.2.1 as S σ some = none) ∨ gb_LkM g own q.2.1 q.2.2.2.1 q.2.2.2.2.1 ∨ gb_Lk l D cA ad A adV g cost (fun _ _ => True) own lev q.2.1 q.2.2.2.1 q.2.2.2.2.1 q.2.2.2.2.2)
    (hT : ga_T own cc (ga_lk cl) g cost (fun _ => []) gaCls 84 mc ms true lf true none (fun _ _ => True) gk_kS (0, gb_L0 as maxL, [], S, σ, 0, 0) (S', σ'))
    (hg2 : ∀ (α : Type) mid as S σ (k : ga_O → Option α) o, g α mid as S σ k = some o → ∃ o1, g ga_O mid as S σ some = some o1 ∧ k o1 = some o)
    (hn : (gb_fl as).length ≤ maxL) (hlf : (!lf || as.all fun v => v.category == 1) = true) :
    gb_C l D cA ad A adV y (gb_ws y cc maxL none) lev mc ms as S σ (.inl none, S', σ') := by
  refine vx_ofW (cc := cc) (maxL := maxL) (ret := none) (hyo ▸ hy) rfl ?_
  intro p e s m args below meth c s₁ B hml hout hPc
  obtain ⟨rfl, hP, hE⟩ := hPc
  have hx := B.exec
  have hb := B.bytes
  have hr := B.returns
  have hts := atoms_spec (ws := gb_ws y cc maxL none) B.pre
  have hcls : s.vm.findClass own = some m.cls := hyo ▸ findClass_of_methodNamed B.named
  have hlocks : meth.locks = false := B.notSynchronized
  have hS : va_S A s.heap s.heap [] := va_S.rf
  obtain ⟨hname, -⟩ := name_of_methodNamed B.named B.method
  obtain ⟨c1, c2, c3, c4, c5, c6, c7, c8⟩ := gk_rows (s := s) (args := (as.map (ga_v ad)).toArray) (Ts := gb_ws y cc maxL none) hown hown2 hwd hck gb_ws_good hts hE
  have ok : ga_Ok p l e (gb_rm lev mc ms) s m (as.map (ga_v ad)).toArray below meth c (vx_MQ below (gb_Qc D cA ad A (.inl none, S', σ')) (gb_XC D cA ad A (.inl none, S', σ')) (as.map (ga_v ad)).toArray s mc ms A) cc own (gb_ws y cc maxL none) D cA ad A (ga_lk cl) g cost (fun _ => []) gaCls 84 mc ms true lf true none gb_exn 0 0 (fun o' => o' = (.inl none, S', σ')) (fun _ _ => True) := by
    refine ⟨hx, hb, hcls, hts, hE.1, hE.2.2.2.2.2.2.2.2.2.1, hE.2.2.2.2.2.2.2.2.2.2, ⟨by simp [gb_rm], by simp [gb_rm], by simp only [gb_rm]; omega, by simp only [gb_rm]; omega⟩, (fun _ => hname.trans hin), (fun q h => by cases h), c1, c2, c3, c4, c5, c6, c7, c8, ⟨Or.inl fun _ _ => trivial, fun _ _ _ _ _ => trivial, fun _ _ _ _ _ _ _ => trivial, hg2⟩, ?_, ?_, gb_excOk hlocks hout, gb_catOk, gb_retOk hx hb hr hlocks (fun v hv => by cases hv; rfl)⟩
    · refine gb_callOk (Nat.le_refl _) (Nat.le_refl _) (Nat.le_refl _) (Nat.le_refl _) hx hb hml hcls gb_ws_good hts hE c1 ?_
      intro pc ins len mid na sw h hi
      exact hlk _ (gb_lk_mem h) hi
    · intro pc idx len r1 r2 sw h h9
      have h1 : Nat.blt r1 1000 = true := List.all_eq_true.mp hnt _ (gb_lk_mem h)
      have h2 := Nat.le_of_ble_eq_true h1
      exact absurd h9 (by omega)
  have hW := hT p l e (gb_rm lev mc ms) s m (as.map (ga_v ad)).toArray below meth c (vx_MQ below (gb_Qc D cA ad A (.inl none, S', σ')) (gb_XC D cA ad A (.inl none, S', σ')) (as.map (ga_v ad)).toArray s mc ms A) (gb_ws y cc maxL none) D cA ad A gb_exn 0 0 (fun o' => o' = (.inl none, S', σ')) ok (fun o' ho' _ => gk_ho o' ho') (gb_L0_lf hlf) trivial (Nat.zero_le _) (Nat.zero_le _) s.heap []
  rw [lg_entry_eq]
  exact hW _ ⟨hP.1, hP.2.1, hS, hP.2.2⟩ (by rw [hml]; exact gb_L0_L hn)
/-- the call rows of a table, each by its own proof -/
def gk_cr (rows : List (Instr × Nat × Nat × List (Int32 × Nat))) (q : Nat × ga_E) : Bool := match q.2.1 with
  | .invokevirtual _ => rows.any fun r => decide (r = (q.2.1, q.2.2.2.1, q.2.2.2.2.1, q.2.2.2.2.2))
  | .invokestatic _ => rows.any fun r => decide (r = (q.2.1, q.2.2.2.1, q.2.2.2.2.1, q.2.2.2.2.2))
  | .invokespecial _ => Nat.beq q.2.2.2.1 0 || rows.any fun r => decide (r = (q.2.1, q.2.2.2.1, q.2.2.2.2.1, q.2.2.2.2.2))
  | _ => true
theorem gk_hlk {rows : List (Instr × Nat × Nat × List (Int32 × Nat))} {cl : List (Nat × ga_E)} {g : ga_G} {cost : Nat → Nat × Nat} {PS : ga_S → ga_M → Prop} {own : String} {lev : Nat} (hr : ∀ r ∈ rows, gb_Lk l D cA ad A adV g cost PS own lev r.1 r.2.1 r.2.2.1 r.2.2.2) (hck : cl.all (gk_cr rows) = true) :
    ∀ q ∈ cl, ((∃ i, q.2.1 = .invokevirtual i) ∨ (∃ i, q.2.1 = .invokestatic i) ∨ (∃ i, q.2.1 = .invokespecial i) ∧ q.2.2.2.1 ≠ 0) → (∀ as S σ, g ga_O q.2.2.2.1 as S σ some = none) ∨ gb_LkM g own q.2.1 q.2.2.2.1 q.2.2.2.2.1 ∨ gb_Lk l D cA ad A adV g cost PS own lev q.2.1 q.2.2.2.1 q.2.2.2.2.1 q.2.2.2.2.2 := by
  intro q hq hi
  have h := List.all_eq_true.mp hck q hq
  obtain ⟨pc, ins, len, mid, na, sw⟩ := q
  have fin : (rows.any fun r => decide (r = (ins, mid, na, sw))) = true → gb_Lk l D cA ad A adV g cost PS own lev ins mid na sw := fun h => by
    obtain ⟨r, hr9, h9⟩ := List.any_eq_true.mp h
    have h9 := of_decide_eq_true h9
    have := hr r hr9
    rw [h9] at this
    exact this
  dsimp only at hi ⊢
  rcases hi with ⟨i, rfl⟩ | ⟨i, rfl⟩ | ⟨⟨i, rfl⟩, hm⟩
  · exact Or.inr (Or.inr (fin h))
  · exact Or.inr (Or.inr (fin h))
  · rcases (Bool.or_eq_true _ _).mp (show (Nat.beq mid 0 || rows.any fun r => decide (r = (.invokespecial i, mid, na, sw))) = true from h) with h | h
    · exact absurd (Nat.eq_of_beq_eq_true h) hm
    · exact Or.inr (Or.inr (fin h))
/-- a row's proof: a constructor, or one of the nest -/
theorem gk_LkI {g : ga_G} {cost : Nat → Nat × Nat} {PS : ga_S → ga_M → Prop} {own : String} {lev i mid na n maxL lv : Nat} {sw : List (Int32 × Nat)} {y : MethodName} {bytes : ByteArray} (h1 : lv + 1 ≤ lev) (h2 : maxL ≤ 14) (h3 : gb_Nm y.cls) (h4 : Cond.initialized y.cls ∈ gb_good) (h5 : (parseMethodDescriptor y.desc).map (fun d => d.parameters.length) = some n) (h6 : Cond.code y bytes maxL none ∈ gb_good)
    (hC : ∀ as S σ o, g ga_O mid as S σ some = some o → gb_C l D cA ad A adV y (gb_ws y bytes maxL none) lv (cost mid).1 (cost mid).2 as S σ o ∧ ∃ b as', as = .ref b :: as') (h7 : na = n + 1) (h8 : y.name = "<init>") (h9 : Cond.methodLink own i y ∈ gb_good ∨ ∃ host, (own, i, y, host) ∈ gb_nest) (h10 : Cond.instanceMethod y ∈ gb_good) :
    gb_Lk l D cA ad A adV g cost PS own lev (.invokespecial i) mid na sw := by
  refine ⟨y, bytes, maxL, none, lv, n, h1, h2, h3, h4, h5, Or.inl ⟨h6, fun as S σ o _ _ hg => (hC as S σ o hg).1, ?_⟩⟩
  rcases h9 with h9 | ⟨host, h9⟩
  · exact Or.inr (Or.inr (Or.inr (Or.inl ⟨i, rfl, h7, h8, rfl, h9, h10, fun as S σ o hg => (hC as S σ o hg).2⟩)))
  · exact Or.inr (Or.inr (Or.inr (Or.inr ⟨i, host, rfl, h7, h8, rfl, h9, h10, fun as S σ o hg => (hC as S σ o hg).2⟩)))
/-- .. a method of an object -/
theorem gk_LkV {g : ga_G} {cost : Nat → Nat × Nat} {PS : ga_S → ga_M → Prop} {own : String} {lev i mid na : Nat} {z : Int32 × Nat} (hT : gb_Tb mid) (hki : gb_ki mid = 0) (h1 : gb_lv mid + 1 ≤ lev) (h7 : na = gb_ar mid + 1) (hz : z.2 = gb_ci mid) (h9 : Cond.methodLink own i (gb_y mid) ∈ gb_good)
    (hC : ∀ as S σ o, PS S σ → g ga_O mid as S σ some = some o → gb_C l D cA ad A adV (gb_y mid) (gb_ws (gb_y mid) (gb_b mid) (gb_n mid) (gb_r mid)) (gb_lv mid) (cost mid).1 (cost mid).2 as S σ o) : gb_Lk l D cA ad A adV g cost PS own lev (.invokevirtual i) mid na [z] := by
  obtain ⟨k1, k2, T, N, k3⟩ := hT.2.2.2.2.2.1 hki
  exact ⟨gb_y mid, gb_b mid, gb_n mid, gb_r mid, gb_lv mid, gb_ar mid, h1, hT.2.2.2.2.1, hT.2.2.1, hT.2.1, hT.2.2.2.1, Or.inl ⟨hT.1, fun as S σ o hP _ hg => hC as S σ o hP hg, Or.inl ⟨i, rfl, h7, h9, k1, k2, Or.inl ⟨z, [], T, N, rfl, by rw [hz]; exact k3⟩⟩⟩⟩
end GK1
section GK2
theorem gk_cl0 : gk_Cl 0 := by
  refine ⟨RX0, TX0, 7, tyX0, rfl, (List.forall_mem_cons.mpr ⟨(gb_w2 38 rfl rfl), List.forall_mem_cons.mpr ⟨(gb_w2 40 rfl rfl), List.forall_mem_cons.mpr ⟨(gb_w2 42 rfl rfl), List.forall_mem_cons.mpr ⟨(gb_w2 44 rfl rfl), List.forall_mem_cons.mpr ⟨(gb_w2 46 rfl rfl), List.forall_mem_cons.mpr ⟨(gb_w2 48 rfl rfl), List.forall_mem_cons.mpr ⟨(gb_w2 50 rfl rfl), fun _ h => nomatch h⟩⟩⟩⟩⟩⟩⟩), tyX0_ok, nmX0, by decide +kernel, fun k hk h => ?_, fun j hj => ?_, (gb_w2 21 rfl rfl), (gb_w1 6 rfl rfl)⟩
  · match k, hk, h with
    | 0, _, h => exact ⟨rfl, fun a => ⟨rfl, rfl⟩⟩
    | 1, _, h => exact ⟨rfl, fun a => ⟨rfl, rfl⟩⟩
    | 2, _, h => exact ⟨rfl, fun a => ⟨rfl, rfl⟩⟩
    | 3, _, h => exact ⟨rfl, fun a => ⟨rfl, rfl⟩⟩
    | 4, _, h => exact ⟨rfl, fun a => ⟨rfl, rfl⟩⟩
    | 5, _, h => exact ⟨rfl, fun a => ⟨rfl, rfl⟩⟩
    | 6, _, h => cases h
    | n + 7, hk, _ => exact absurd hk (by omega)
  · match j, hj with
    | 0, _ => exact Or.inr ⟨rfl, rfl⟩
    | 1, _ => exact Or.inr ⟨rfl, rfl⟩
    | 2, _ => exact Or.inr ⟨rfl, rfl⟩
    | 3, _ => exact Or.inr ⟨rfl, rfl⟩
    | 4, _ => exact Or.inr ⟨rfl, rfl⟩
    | 5, _ => exact Or.inr ⟨rfl, rfl⟩
    | 6, _ => exact Or.inl ⟨rfl, rfl⟩
    | n + 7, hj => exact absurd hj (by omega)
theorem gk_cl1 : gk_Cl 1 := by
  refine ⟨RX1, TX1, 4, tyX1, rfl, (List.forall_mem_cons.mpr ⟨(gb_w2 85 rfl rfl), List.forall_mem_cons.mpr ⟨(gb_w2 87 rfl rfl), List.forall_mem_cons.mpr ⟨(gb_w2 89 rfl rfl), List.forall_mem_cons.mpr ⟨(gb_w2 91 rfl rfl), fun _ h => nomatch h⟩⟩⟩⟩), tyX1_ok, nmX1, by decide +kernel, fun k hk h => ?_, fun j hj => ?_, (gb_w2 73 rfl rfl), (gb_w1 8 rfl rfl)⟩
  · match k, hk, h with
    | 0, _, h => exact ⟨rfl, fun a => ⟨rfl, rfl⟩⟩
    | 1, _, h => exact ⟨rfl, fun a => ⟨rfl, rfl⟩⟩
    | 2, _, h => cases h
    | 3, _, h => cases h
    | n + 4, hk, _ => exact absurd hk (by omega)
  · match j, hj with
    | 0, _ => exact Or.inr ⟨rfl, rfl⟩
    | 1, _ => exact Or.inr ⟨rfl, rfl⟩
    | 2, _ => exact Or.inl ⟨rfl, rfl⟩
    | 3, _ => exact Or.inl ⟨rfl, rfl⟩
    | n + 4, hj => exact absurd hj (by omega)
theorem gk_cl2 : gk_Cl 2 := by
  refine ⟨RX2, TX2, 4, tyX2, rfl, (List.forall_mem_cons.mpr ⟨(gb_w2 63 rfl rfl), List.forall_mem_cons.mpr ⟨(gb_w2 65 rfl rfl), List.forall_mem_cons.mpr ⟨(gb_w2 67 rfl rfl), List.forall_mem_cons.mpr ⟨(gb_w2 69 rfl rfl), fun _ h => nomatch h⟩⟩⟩⟩), tyX2_ok, nmX2, by decide +kernel, fun k hk h => ?_, fun j hj => ?_, (gb_w2 54 rfl rfl), (gb_w1 7 rfl rfl)⟩
  · match k, hk, h with
    | 0, _, h => exact ⟨rfl, fun a => ⟨rfl, rfl⟩⟩
    | 1, _, h => exact ⟨rfl, fun a => ⟨rfl, rfl⟩⟩
    | 2, _, h => exact ⟨rfl, fun a => ⟨rfl, rfl⟩⟩
    | 3, _, h => exact ⟨rfl, fun a => ⟨rfl, rfl⟩⟩
    | n + 4, hk, _ => exact absurd hk (by omega)
  · match j, hj with
    | 0, _ => exact Or.inr ⟨rfl, rfl⟩
    | 1, _ => exact Or.inr ⟨rfl, rfl⟩
    | 2, _ => exact Or.inr ⟨rfl, rfl⟩
    | 3, _ => exact Or.inr ⟨rfl, rfl⟩
    | n + 4, hj => exact absurd hj (by omega)
theorem gk_cl3 : gk_Cl 3 := by
  refine ⟨RX3, TX3, 6, tyX3, rfl, (List.forall_mem_cons.mpr ⟨(gb_w1 206 rfl rfl), List.forall_mem_cons.mpr ⟨(gb_w1 208 rfl rfl), List.forall_mem_cons.mpr ⟨(gb_w1 210 rfl rfl), List.forall_mem_cons.mpr ⟨(gb_w1 212 rfl rfl), List.forall_mem_cons.mpr ⟨(gb_w1 214 rfl rfl), List.forall_mem_cons.mpr ⟨(gb_w1 216 rfl rfl), fun _ h => nomatch h⟩⟩⟩⟩⟩⟩), tyX3_ok, nmX3, by decide +kernel, fun k hk h => ?_, fun j hj => ?_, (gb_w1 174 rfl rfl), (gb_w1 4 rfl rfl)⟩
  · match k, hk, h with
    | 0, _, h => exact ⟨rfl, fun a => ⟨rfl, rfl⟩⟩
    | 1, _, h => exact ⟨rfl, fun a => ⟨rfl, rfl⟩⟩
    | 2, _, h => exact ⟨rfl, fun a => ⟨rfl, rfl⟩⟩
    | 3, _, h => exact ⟨rfl, fun a => ⟨rfl, rfl⟩⟩
    | 4, _, h => exact ⟨rfl, fun a => ⟨rfl, rfl⟩⟩
    | 5, _, h => exact ⟨rfl, fun a => ⟨rfl, rfl⟩⟩
    | n + 6, hk, _ => exact absurd hk (by omega)
  · match j, hj with
    | 0, _ => exact Or.inr ⟨rfl, rfl⟩
    | 1, _ => exact Or.inr ⟨rfl, rfl⟩
    | 2, _ => exact Or.inr ⟨rfl, rfl⟩
    | 3, _ => exact Or.inr ⟨rfl, rfl⟩
    | 4, _ => exact Or.inr ⟨rfl, rfl⟩
    | 5, _ => exact Or.inr ⟨rfl, rfl⟩
    | n + 6, hj => exact absurd hj (by omega)
theorem gk_cl4 : gk_Cl 4 := by
  refine ⟨RX4, TX4, 2, tyX4, rfl, (List.forall_mem_cons.mpr ⟨(gb_w2 15 rfl rfl), List.forall_mem_cons.mpr ⟨(gb_w2 17 rfl rfl), fun _ h => nomatch h⟩⟩), tyX4_ok, nmX4, by decide +kernel, fun k hk h => ?_, fun j hj => ?_, (gb_w2 8 rfl rfl), (gb_w1 5 rfl rfl)⟩
  · match k, hk, h with
    | 0, _, h => exact ⟨rfl, fun a => ⟨rfl, rfl⟩⟩
    | 1, _, h => exact ⟨rfl, fun a => ⟨rfl, rfl⟩⟩
    | n + 2, hk, _ => exact absurd hk (by omega)
  · match j, hj with
    | 0, _ => exact Or.inr ⟨rfl, rfl⟩
    | 1, _ => exact Or.inr ⟨rfl, rfl⟩
    | n + 2, hj => exact absurd hj (by omega)
theorem gk_cl5 : gk_Cl 5 := by
  refine ⟨RX5, TX5, 4, tyX5, rfl, (List.forall_mem_cons.mpr ⟨(gb_w2 178 rfl rfl), List.forall_mem_cons.mpr ⟨(gb_w2 180 rfl rfl), List.forall_mem_cons.mpr ⟨(gb_w2 182 rfl rfl), List.forall_mem_cons.mpr ⟨(gb_w2 184 rfl rfl), fun _ h => nomatch h⟩⟩⟩⟩), tyX5_ok, nmX5, by decide +kernel, fun k hk h => ?_, fun j hj => ?_, (gb_w2 166 rfl rfl), (gb_w1 12 rfl rfl)⟩
  · match k, hk, h with
    | 0, _, h => exact ⟨rfl, fun a => ⟨rfl, rfl⟩⟩
    | 1, _, h => exact ⟨rfl, fun a => ⟨rfl, rfl⟩⟩
    | 2, _, h => exact ⟨rfl, fun a => ⟨rfl, rfl⟩⟩
    | 3, _, h => cases h
    | n + 4, hk, _ => exact absurd hk (by omega)
  · match j, hj with
    | 0, _ => exact Or.inr ⟨rfl, rfl⟩
    | 1, _ => exact Or.inr ⟨rfl, rfl⟩
    | 2, _ => exact Or.inr ⟨rfl, rfl⟩
    | 3, _ => exact Or.inl ⟨rfl, rfl⟩
    | n + 4, hj => exact absurd hj (by omega)
theorem gk_cl6 : gk_Cl 6 := by
  refine ⟨RX6, TX6, 1, tyX6, rfl, (List.forall_mem_cons.mpr ⟨(gb_w1 46 rfl rfl), fun _ h => nomatch h⟩), tyX6_ok, nmX6, by decide +kernel, fun k hk h => ?_, fun j hj => ?_, (gb_w1 40 rfl rfl), (gb_w1 3 rfl rfl)⟩
  · match k, hk, h with
    | 0, _, h => exact ⟨rfl, fun a => ⟨rfl, rfl⟩⟩
    | n + 1, hk, _ => exact absurd hk (by omega)
  · match j, hj with
    | 0, _ => exact Or.inr ⟨rfl, rfl⟩
    | n + 1, hj => exact absurd hj (by omega)
theorem gk_cl7 : gk_Cl 7 := by
  refine ⟨RX7, TX7, 16, tyX7, rfl, (List.forall_mem_cons.mpr ⟨(gb_w1 112 rfl rfl), List.forall_mem_cons.mpr ⟨(gb_w1 114 rfl rfl), List.forall_mem_cons.mpr ⟨(gb_w1 116 rfl rfl), List.forall_mem_cons.mpr ⟨(gb_w1 118 rfl rfl), List.forall_mem_cons.mpr ⟨(gb_w1 120 rfl rfl), List.forall_mem_cons.mpr ⟨(gb_w1 122 rfl rfl), List.forall_mem_cons.mpr ⟨(gb_w1 124 rfl rfl), List.forall_mem_cons.mpr ⟨(gb_w1 126 rfl rfl), List.forall_mem_cons.mpr ⟨(gb_w1 128 rfl rfl), List.forall_mem_cons.mpr ⟨(gb_w1 130 rfl rfl), List.forall_mem_cons.mpr ⟨(gb_w1 132 rfl rfl), List.forall_mem_cons.mpr ⟨(gb_w1 134 rfl rfl), List.forall_mem_cons.mpr ⟨(gb_w1 136 rfl rfl), List.forall_mem_cons.mpr ⟨(gb_w1 138 rfl rfl), List.forall_mem_cons.mpr ⟨(gb_w1 140 rfl rfl), List.forall_mem_cons.mpr ⟨(gb_w1 142 rfl rfl), fun _ h => nomatch h⟩⟩⟩⟩⟩⟩⟩⟩⟩⟩⟩⟩⟩⟩⟩⟩), tyX7_ok, nmX7, by decide +kernel, fun k hk h => ?_, fun j hj => ?_, (gb_w1 34 rfl rfl), (gb_w1 2 rfl rfl)⟩
  · match k, hk, h with
    | 0, _, h => cases h
    | 1, _, h => cases h
    | 2, _, h => cases h
    | 3, _, h => cases h
    | 4, _, h => cases h
    | 5, _, h => cases h
    | 6, _, h => cases h
    | 7, _, h => exact ⟨rfl, fun a => ⟨rfl, rfl⟩⟩
    | 8, _, h => exact ⟨rfl, fun a => ⟨rfl, rfl⟩⟩
    | 9, _, h => exact ⟨rfl, fun a => ⟨rfl, rfl⟩⟩
    | 10, _, h => exact ⟨rfl, fun a => ⟨rfl, rfl⟩⟩
    | 11, _, h => exact ⟨rfl, fun a => ⟨rfl, rfl⟩⟩
    | 12, _, h => exact ⟨rfl, fun a => ⟨rfl, rfl⟩⟩
    | 13, _, h => exact ⟨rfl, fun a => ⟨rfl, rfl⟩⟩
    | 14, _, h => exact ⟨rfl, fun a => ⟨rfl, rfl⟩⟩
    | 15, _, h => exact ⟨rfl, fun a => ⟨rfl, rfl⟩⟩
    | n + 16, hk, _ => exact absurd hk (by omega)
  · match j, hj with
    | 0, _ => exact Or.inl ⟨rfl, rfl⟩
    | 1, _ => exact Or.inl ⟨rfl, rfl⟩
    | 2, _ => exact Or.inl ⟨rfl, rfl⟩
    | 3, _ => exact Or.inl ⟨rfl, rfl⟩
    | 4, _ => exact Or.inl ⟨rfl, rfl⟩
    | 5, _ => exact Or.inl ⟨rfl, rfl⟩
    | 6, _ => exact Or.inl ⟨rfl, rfl⟩
    | 7, _ => exact Or.inr ⟨rfl, rfl⟩
    | 8, _ => exact Or.inr ⟨rfl, rfl⟩
    | 9, _ => exact Or.inr ⟨rfl, rfl⟩
    | 10, _ => exact Or.inr ⟨rfl, rfl⟩
    | 11, _ => exact Or.inr ⟨rfl, rfl⟩
    | 12, _ => exact Or.inr ⟨rfl, rfl⟩
    | 13, _ => exact Or.inr ⟨rfl, rfl⟩
    | 14, _ => exact Or.inr ⟨rfl, rfl⟩
    | 15, _ => exact Or.inr ⟨rfl, rfl⟩
    | n + 16, hj => exact absurd hj (by omega)
theorem gk_cl8 : gk_Cl 8 := by
  refine ⟨RX8, TX8, 2, tyX8, rfl, (List.forall_mem_cons.mpr ⟨(gb_w2 142 rfl rfl), List.forall_mem_cons.mpr ⟨(gb_w2 144 rfl rfl), fun _ h => nomatch h⟩⟩), tyX8_ok, nmX8, by decide +kernel, fun k hk h => ?_, fun j hj => ?_, (gb_w2 132 rfl rfl), (gb_w1 10 rfl rfl)⟩
  · match k, hk, h with
    | 0, _, h => exact ⟨rfl, fun a => ⟨rfl, rfl⟩⟩
    | 1, _, h => exact ⟨rfl, fun a => ⟨rfl, rfl⟩⟩
    | n + 2, hk, _ => exact absurd hk (by omega)
  · match j, hj with
    | 0, _ => exact Or.inr ⟨rfl, rfl⟩
    | 1, _ => exact Or.inr ⟨rfl, rfl⟩
    | n + 2, hj => exact absurd hj (by omega)
theorem gk_cl9 : gk_Cl 9 := by
  refine ⟨RX9, TX9, 5, tyX9, rfl, (List.forall_mem_cons.mpr ⟨(gb_w2 154 rfl rfl), List.forall_mem_cons.mpr ⟨(gb_w2 156 rfl rfl), List.forall_mem_cons.mpr ⟨(gb_w2 158 rfl rfl), List.forall_mem_cons.mpr ⟨(gb_w2 160 rfl rfl), List.forall_mem_cons.mpr ⟨(gb_w2 162 rfl rfl), fun _ h => nomatch h⟩⟩⟩⟩⟩), tyX9_ok, nmX9, by decide +kernel, fun k hk h => ?_, fun j hj => ?_, (gb_w2 148 rfl rfl), (gb_w1 11 rfl rfl)⟩
  · match k, hk, h with
    | 0, _, h => exact ⟨rfl, fun a => ⟨rfl, rfl⟩⟩
    | 1, _, h => cases h
    | 2, _, h => cases h
    | 3, _, h => cases h
    | 4, _, h => cases h
    | n + 5, hk, _ => exact absurd hk (by omega)
  · match j, hj with
    | 0, _ => exact Or.inr ⟨rfl, rfl⟩
    | 1, _ => exact Or.inl ⟨rfl, rfl⟩
    | 2, _ => exact Or.inl ⟨rfl, rfl⟩
    | 3, _ => exact Or.inl ⟨rfl, rfl⟩
    | 4, _ => exact Or.inl ⟨rfl, rfl⟩
    | n + 5, hj => exact absurd hj (by omega)
theorem gk_cl10 : gk_Cl 10 := by
  refine ⟨RX10, TX10, 8, tyX10, rfl, (List.forall_mem_cons.mpr ⟨(gb_w2 114 rfl rfl), List.forall_mem_cons.mpr ⟨(gb_w2 116 rfl rfl), List.forall_mem_cons.mpr ⟨(gb_w2 118 rfl rfl), List.forall_mem_cons.mpr ⟨(gb_w2 120 rfl rfl), List.forall_mem_cons.mpr ⟨(gb_w2 122 rfl rfl), List.forall_mem_cons.mpr ⟨(gb_w2 124 rfl rfl), List.forall_mem_cons.mpr ⟨(gb_w2 126 rfl rfl), List.forall_mem_cons.mpr ⟨(gb_w2 128 rfl rfl), fun _ h => nomatch h⟩⟩⟩⟩⟩⟩⟩⟩), tyX10_ok, nmX10, by decide +kernel, fun k hk h => ?_, fun j hj => ?_, (gb_w2 95 rfl rfl), (gb_w1 9 rfl rfl)⟩
  · match k, hk, h with
    | 0, _, h => exact ⟨rfl, fun a => ⟨rfl, rfl⟩⟩
    | 1, _, h => cases h
    | 2, _, h => cases h
    | 3, _, h => cases h
    | 4, _, h => cases h
    | 5, _, h => cases h
    | 6, _, h => cases h
    | 7, _, h => cases h
    | n + 8, hk, _ => exact absurd hk (by omega)
  · match j, hj with
    | 0, _ => exact Or.inr ⟨rfl, rfl⟩
    | 1, _ => exact Or.inl ⟨rfl, rfl⟩
    | 2, _ => exact Or.inl ⟨rfl, rfl⟩
    | 3, _ => exact Or.inl ⟨rfl, rfl⟩
    | 4, _ => exact Or.inl ⟨rfl, rfl⟩
    | 5, _ => exact Or.inl ⟨rfl, rfl⟩
    | 6, _ => exact Or.inl ⟨rfl, rfl⟩
    | 7, _ => exact Or.inl ⟨rfl, rfl⟩
    | n + 8, hj => exact absurd hj (by omega)
theorem gk_cl11 : gk_Cl 11 := by
  refine ⟨RX11, TX11, 10, tyX11, rfl, (List.forall_mem_cons.mpr ⟨(gb_w2 197 rfl rfl), List.forall_mem_cons.mpr ⟨(gb_w2 199 rfl rfl), List.forall_mem_cons.mpr ⟨(gb_w2 201 rfl rfl), List.forall_mem_cons.mpr ⟨(gb_w2 203 rfl rfl), List.forall_mem_cons.mpr ⟨(gb_w2 205 rfl rfl), List.forall_mem_cons.mpr ⟨(gb_w2 207 rfl rfl), List.forall_mem_cons.mpr ⟨(gb_w2 209 rfl rfl), List.forall_mem_cons.mpr ⟨(gb_w2 211 rfl rfl), List.forall_mem_cons.mpr ⟨(gb_w2 213 rfl rfl), List.forall_mem_cons.mpr ⟨(gb_w2 215 rfl rfl), fun _ h => nomatch h⟩⟩⟩⟩⟩⟩⟩⟩⟩⟩), tyX11_ok, nmX11, by decide +kernel, fun k hk h => ?_, fun j hj => ?_, (gb_w1 26 rfl rfl), (gb_w1 1 rfl rfl)⟩
  · match k, hk, h with
    | 0, _, h => exact ⟨rfl, fun a => ⟨rfl, rfl⟩⟩
    | 1, _, h => exact ⟨rfl, fun a => ⟨rfl, rfl⟩⟩
    | 2, _, h => exact ⟨rfl, fun a => ⟨rfl, rfl⟩⟩
    | 3, _, h => exact ⟨rfl, fun a => ⟨rfl, rfl⟩⟩
    | 4, _, h => exact ⟨rfl, fun a => ⟨rfl, rfl⟩⟩
    | 5, _, h => exact ⟨rfl, fun a => ⟨rfl, rfl⟩⟩
    | 6, _, h => exact ⟨rfl, fun a => ⟨rfl, rfl⟩⟩
    | 7, _, h => exact ⟨rfl, fun a => ⟨rfl, rfl⟩⟩
    | 8, _, h => exact ⟨rfl, fun a => ⟨rfl, rfl⟩⟩
    | 9, _, h => exact ⟨rfl, fun a => ⟨rfl, rfl⟩⟩
    | n + 10, hk, _ => exact absurd hk (by omega)
  · match j, hj with
    | 0, _ => exact Or.inr ⟨rfl, rfl⟩
    | 1, _ => exact Or.inr ⟨rfl, rfl⟩
    | 2, _ => exact Or.inr ⟨rfl, rfl⟩
    | 3, _ => exact Or.inr ⟨rfl, rfl⟩
    | 4, _ => exact Or.inr ⟨rfl, rfl⟩
    | 5, _ => exact Or.inr ⟨rfl, rfl⟩
    | 6, _ => exact Or.inr ⟨rfl, rfl⟩
    | 7, _ => exact Or.inr ⟨rfl, rfl⟩
    | 8, _ => exact Or.inr ⟨rfl, rfl⟩
    | 9, _ => exact Or.inr ⟨rfl, rfl⟩
    | n + 10, hj => exact absurd hj (by omega)
theorem gk_wd : gk_Wd := by
  refine ⟨fun ci hci => ?_, (gb_w1 31 rfl rfl), (gb_w1 32 rfl rfl), (gb_w1 49 rfl rfl), (gb_w3 174 rfl rfl)⟩
  match ci, hci with
  | 0, _ => exact gk_cl0
  | 1, _ => exact gk_cl1
  | 2, _ => exact gk_cl2
  | 3, _ => exact gk_cl3
  | 4, _ => exact gk_cl4
  | 5, _ => exact gk_cl5
  | 6, _ => exact gk_cl6
  | 7, _ => exact gk_cl7
  | 8, _ => exact gk_cl8
  | 9, _ => exact gk_cl9
  | 10, _ => exact gk_cl10
  | 11, _ => exact gk_cl11
  | n + 12, h => exact absurd h (by omega)
def gk_nwX0 : List (Nat × Nat) := [(9, 6)]
def gk_oiX0 : List Nat := [3]
theorem gk_oX0 : gk_Own RX0 gk_nwX0 gk_oiX0 := ⟨(List.forall_mem_cons.mpr ⟨(fun C hC => by cases hC; exact (gb_w2 26 rfl rfl)), fun _ h => nomatch h⟩), (List.forall_mem_cons.mpr ⟨(gb_w2 25 rfl rfl), fun _ h => nomatch h⟩)⟩
def gk_nwX1 : List (Nat × Nat) := [(11, 6)]
def gk_oiX1 : List Nat := [5]
theorem gk_oX1 : gk_Own RX1 gk_nwX1 gk_oiX1 := ⟨(List.forall_mem_cons.mpr ⟨(fun C hC => by cases hC; exact (gb_w2 78 rfl rfl)), fun _ h => nomatch h⟩), (List.forall_mem_cons.mpr ⟨(gb_w2 77 rfl rfl), fun _ h => nomatch h⟩)⟩
def gk_nwX2 : List (Nat × Nat) := []
def gk_oiX2 : List Nat := [1]
theorem gk_oX2 : gk_Own RX2 gk_nwX2 gk_oiX2 := ⟨(fun _ h => nomatch h), (List.forall_mem_cons.mpr ⟨(gb_w2 58 rfl rfl), fun _ h => nomatch h⟩)⟩
def gk_nwX3 : List (Nat × Nat) := [(9, 6)]
def gk_oiX3 : List Nat := [3]
theorem gk_oX3 : gk_Own RX3 gk_nwX3 gk_oiX3 := ⟨(List.forall_mem_cons.mpr ⟨(fun C hC => by cases hC; exact (gb_w1 179 rfl rfl)), fun _ h => nomatch h⟩), (List.forall_mem_cons.mpr ⟨(gb_w1 178 rfl rfl), fun _ h => nomatch h⟩)⟩
def gk_nwX4 : List (Nat × Nat) := []
def gk_oiX4 : List Nat := [3]
theorem gk_oX4 : gk_Own RX4 gk_nwX4 gk_oiX4 := ⟨(fun _ h => nomatch h), (List.forall_mem_cons.mpr ⟨(gb_w2 12 rfl rfl), fun _ h => nomatch h⟩)⟩
def gk_nwX5 : List (Nat × Nat) := [(9, 6)]
def gk_oiX5 : List Nat := [3]
theorem gk_oX5 : gk_Own RX5 gk_nwX5 gk_oiX5 := ⟨(List.forall_mem_cons.mpr ⟨(fun C hC => by cases hC; exact (gb_w2 171 rfl rfl)), fun _ h => nomatch h⟩), (List.forall_mem_cons.mpr ⟨(gb_w2 170 rfl rfl), fun _ h => nomatch h⟩)⟩
def gk_nwX6 : List (Nat × Nat) := []
def gk_oiX6 : List Nat := [3]
theorem gk_oX6 : gk_Own RX6 gk_nwX6 gk_oiX6 := ⟨(fun _ h => nomatch h), (List.forall_mem_cons.mpr ⟨(gb_w1 44 rfl rfl), fun _ h => nomatch h⟩)⟩
def gk_nwX7 : List (Nat × Nat) := [(9, 6)]
def gk_oiX7 : List Nat := [3]
theorem gk_oX7 : gk_Own RX7 gk_nwX7 gk_oiX7 := ⟨(List.forall_mem_cons.mpr ⟨(fun C hC => by cases hC; exact (gb_w1 39 rfl rfl)), fun _ h => nomatch h⟩), (List.forall_mem_cons.mpr ⟨(gb_w1 38 rfl rfl), fun _ h => nomatch h⟩)⟩
def gk_nwX8 : List (Nat × Nat) := [(9, 7)]
def gk_oiX8 : List Nat := [3]
theorem gk_oX8 : gk_Own RX8 gk_nwX8 gk_oiX8 := ⟨(List.forall_mem_cons.mpr ⟨(fun C hC => by cases hC; exact (gb_w2 137 rfl rfl)), fun _ h => nomatch h⟩), (List.forall_mem_cons.mpr ⟨(gb_w2 136 rfl rfl), fun _ h => nomatch h⟩)⟩
def gk_nwX9 : List (Nat × Nat) := []
def gk_oiX9 : List Nat := [3]
theorem gk_oX9 : gk_Own RX9 gk_nwX9 gk_oiX9 := ⟨(fun _ h => nomatch h), (List.forall_mem_cons.mpr ⟨(gb_w2 152 rfl rfl), fun _ h => nomatch h⟩)⟩
def gk_nwX10 : List (Nat × Nat) := [(9, 6)]
def gk_oiX10 : List Nat := [3]
theorem gk_oX10 : gk_Own RX10 gk_nwX10 gk_oiX10 := ⟨(List.forall_mem_cons.mpr ⟨(fun C hC => by cases hC; exact (gb_w2 100 rfl rfl)), fun _ h => nomatch h⟩), (List.forall_mem_cons.mpr ⟨(gb_w2 99 rfl rfl), fun _ h => nomatch h⟩)⟩
def gk_nwX11 : List (Nat × Nat) := [(7, 7), (19, 3), (31, 4), (40, 0), (47, 2), (56, 1), (65, 10), (72, 8), (81, 9), (88, 5)]
def gk_oiX11 : List Nat := [1]
theorem gk_oX11 : gk_Own RX11 gk_nwX11 gk_oiX11 := ⟨(List.forall_mem_cons.mpr ⟨(fun C hC => by cases hC; exact (gb_w1 33 rfl rfl)), List.forall_mem_cons.mpr ⟨(fun C hC => by cases hC; exact (gb_w1 173 rfl rfl)), List.forall_mem_cons.mpr ⟨(fun C hC => by cases hC; exact (gb_w2 7 rfl rfl)), List.forall_mem_cons.mpr ⟨(fun C hC => by cases hC; exact (gb_w2 20 rfl rfl)), List.forall_mem_cons.mpr ⟨(fun C hC => by cases hC; exact (gb_w2 53 rfl rfl)), List.forall_mem_cons.mpr ⟨(fun C hC => by cases hC; exact (gb_w2 72 rfl rfl)), List.forall_mem_cons.mpr ⟨(fun C hC => by cases hC; exact (gb_w2 94 rfl rfl)), List.forall_mem_cons.mpr ⟨(fun C hC => by cases hC; exact (gb_w2 131 rfl rfl)), List.forall_mem_cons.mpr ⟨(fun C hC => by cases hC; exact (gb_w2 147 rfl rfl)), List.forall_mem_cons.mpr ⟨(fun C hC => by cases hC; exact (gb_w2 165 rfl rfl)), fun _ h => nomatch h⟩⟩⟩⟩⟩⟩⟩⟩⟩⟩), (List.forall_mem_cons.mpr ⟨(gb_w1 30 rfl rfl), fun _ h => nomatch h⟩)⟩
def gk_nwL : List (Nat × Nat) := [(18, 11)]
def gk_oiL : List Nat := []
theorem gk_oL : gk_Own RL gk_nwL gk_oiL := ⟨(List.forall_mem_cons.mpr ⟨(fun C hC => by cases hC; exact (gb_w1 25 rfl rfl)), fun _ h => nomatch h⟩), (fun _ h => nomatch h)⟩
end GK2
end
