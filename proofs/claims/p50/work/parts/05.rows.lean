section GA3
variable {p : Program} {l : Launch} {e : Env} {R : Room} {s : State} {m : MethodId} {args : Array Value} {below : List Frame} {meth : Method} {c : Code} {H : Heap} {locs : List Loc} {cells slots : Nat} {Q : State → Prop}
variable {cc : ByteArray} {pc : Nat} {ls : Array Slot} {rest : List Value} {D : va_G} {A : Nat → Prop} {tys : List (ClassId × FieldType)} {H0 : Heap}
variable {cA : Nat → ClassId} {ad : Nat → Nat} {NF : Nat} {S : ga_S} {σ : ga_M}
/-- what is known of a field of a class: its row in the tables -/
def ga_Fg (own : String) (args : Array Value) (s : State) (Ts : List Cond) (idx ci k : Nat) : Prop :=
  ∃ (C : String) (T : u_T) (N : Nat), vwCl[ci]? = some (C, T, N) ∧ k < N ∧ (Cond.fieldLink own idx (T k).1 (T k).2.1 (T k).2.2.1).before args s = true ∧ (∀ w ∈ u_ws C T N, w ∈ Ts)
def ga_Fd (own : String) (args : Array Value) (s : State) (Ts : List Cond) (idx ci k : Nat) : Prop :=
  ∃ (C : String) (T : u_T) (N : Nat) (ty : Nat → FieldType), vwCl[ci]? = some (C, T, N) ∧ k < N ∧ (Cond.fieldLink own idx (T k).1 (T k).2.1 (T k).2.2.1).before args s = true ∧ (∀ w ∈ u_ws C T N, w ∈ Ts) ∧
    (∀ j, j < N → parseFieldDescriptor (T j).2.2.1 = some (ty j)) ∧ (∀ a, a < N → ∀ b, b < N → a ≠ b → (T a).2.1 ≠ (T b).2.1) ∧ ((T k).2.2.2 = false → ty k = .int) ∧ ((T k).2.2.2 = true → (T k).1 = own ∧ ∀ a, narrow (ty k) (.ref a) = .ref a ∧ fits (ty k) (.ref a) = true)
theorem ga_get (hexec : p.tables.exec = Jvm.exec) (hb : c.code = cc) {own : String} {Ts : List Cond} {idx ci k n : Nat} {fs : List ga_F} {v : Value} (hts : ∀ w ∈ Ts, w.before args s = true) (hown : s.vm.findClass own = some m.cls) (hK : va_K D vwCl tys s) (hI : ga_I D cA A H0 ad NF S σ H locs) (hF : ga_Fg own args s Ts idx ci k)
    (hS : S[n]? = some (.inl (ci, fs))) {f : ga_F} (hk : fs[k]? = some f) (hv : ga_fv ad σ n k f = v) (hdg : decode cc pc = .ok (.getfield idx, 3))
    (kk : W p l e R s m args below meth c H locs cells slots Q (F0 m (pc + 3) ls (v :: rest))) : W p l e R s m args below meth c H locs cells slots Q (F0 m pc ls (.ref (ad n) :: rest)) := by
  obtain ⟨C, T, N, h1, h2, h3, h4⟩ := hF
  refine va_get (D := D) (cl := vwCl) (ci := ci) (fs := fs.mapIdx fun k f => ga_fv ad σ n k f) hexec hb hts h4 hown hK hI.1 n (ga_w_at hS) h1 k h2 h3 (fun _ h => h) ?_ hdg kk
  simp [List.getElem?_mapIdx, hk, hv]
theorem ga_putI (hexec : p.tables.exec = Jvm.exec) (hb : c.code = cc) {own : String} {Ts : List Cond} {idx ci k n : Nat} {fs : List ga_F} {x : Int32} (hts : ∀ w ∈ Ts, w.before args s = true) (hown : s.vm.findClass own = some m.cls) (hK : va_K D vwCl tys s) (hI : ga_I D cA A H0 ad NF S σ H locs) (hF : ga_Fd own args s Ts idx ci k)
    (hfin : ∀ q, vwCl[ci]? = some q → (q.2.1 k).2.2.2 = false) (hS : S[n]? = some (.inl (ci, fs))) (hk : fs[k]? = some none) (hdg : decode cc pc = .ok (.putfield idx, 3))
    (kk : ∀ (H1 : Heap) (locs1 : List Loc), ga_I D cA A H0 ad NF S (ga_up σ n k x) H1 locs1 → W p l e R s m args below meth c H1 locs1 cells slots Q (F0 m (pc + 3) ls rest)) : W p l e R s m args below meth c H locs cells slots Q (F0 m pc ls (.int x :: .ref (ad n) :: rest)) := by
  obtain ⟨C, T, N, ty, hc, hkN, hlink, hin, hty, hnm, hi1, hi2⟩ := hF
  obtain ⟨hP, hD, hS0, hz⟩ := hI
  have hf : (T k).2.2.2 = false := hfin _ hc
  have he := ga_w_at (cA := cA) (ad := ad) (σ := σ) hS
  have hap := va_apart (own := own) hts hin ty hty hnm hK hc
  obtain ⟨r, h1, cell, q1, q2, q3, q4⟩ := hP n _ he
  have hr : r = (C, T, N) := Option.some.inj (h1.symm.trans hc)
  subst hr
  obtain ⟨hSl, hfc, kC, hkC, hkind⟩ := hK.1 ci _ hc
  obtain ⟨cf, kf, fi, f, hi, hsl⟩ := hSl k hkN
  have hlay := hts _ (hin _ (u_in_lay hkN))
  unfold u_lay at hlay
  rw [if_neg (by rw [hf]; decide)] at hlay
  have hst := (u_facts hfc hkC (u_lays hts hin hkN) hi).1
  have hd : parseFieldDescriptor (T k).2.2.1 = some .int := by rw [hty k hkN, hi1 hf]
  have h6 := u_store (v := .int x) hfc hkC hkind hlay hi hd rfl rfl
  refine W.putK hexec hb (f := f) ⟨hown, hlink, ⟨_, _, _, hi⟩, hst⟩ (by rw [q2]; exact h6) q1 q3 (by rw [hsl]; exact k2_hasslot (q4 k hkN)) rfl rfl hdg fun H' e1 e2 e3 => ?_
  rw [hsl] at e1 ⊢
  have hl : k < (fs.mapIdx fun k f => ga_fv ad σ n k f).length := by
    have := (List.getElem?_eq_some_iff.mp hk).1
    simpa using this
  have hP1 := hP.set (e := .inr (ci, (fs.mapIdx fun k f => ga_fv ad σ n k f).set k (.int x))) hD he ⟨_, hc, t_OB.to (V := updV (vp_V (fs.mapIdx fun k f => ga_fv ad σ n k f)) k (.int x)) ⟨_, e1, q2, q3, t_set q4 hap hkN (.int x)⟩ (fun j _ => vp_updV_set hl (.int x) j)⟩ e3
  have hD1 := hD.set (e := .inr (ci, (fs.mapIdx fun k f => ga_fv ad σ n k f).set k (.int x))) he
  rw [ga_w_setI (o := (ci, fs)) hS hk] at hP1 hD1
  exact kk H' _ ⟨hP1, hD1, hS0.put e2 e3 (hD.2 n _ he), fun h => by rw [e2]; exact hz h⟩
theorem ga_putR (hexec : p.tables.exec = Jvm.exec) (hb : c.code = cc) {own : String} {Ts : List Cond} {idx ci k n j : Nat} {fs : List ga_F} (hts : ∀ w ∈ Ts, w.before args s = true) (hown : s.vm.findClass own = some m.cls) (hK : va_K D vwCl tys s) (hI : ga_I D cA A H0 ad NF S σ H locs) (hF : ga_Fd own args s Ts idx ci k)
    (hfin : ∀ q, vwCl[ci]? = some q → (q.2.1 k).2.2.2 = true) (hin2 : meth.name = "<init>") (hS : S[n]? = some (.inl (ci, fs))) (hk : fs[k]? = some (some none)) (hdg : decode cc pc = .ok (.putfield idx, 3))
    (kk : ∀ (H1 : Heap) (locs1 : List Loc), ga_I D cA A H0 ad NF (S.set n (.inl (ci, fs.set k (some (some j))))) σ H1 locs1 → W p l e R s m args below meth c H1 locs1 cells slots Q (F0 m (pc + 3) ls rest)) : W p l e R s m args below meth c H locs cells slots Q (F0 m pc ls (.ref (ad j) :: .ref (ad n) :: rest)) := by
  obtain ⟨C, T, N, ty, hc, hkN, hlink, hin, hty, hnm, hi1, hi2⟩ := hF
  obtain ⟨hP, hD, hS0, hz⟩ := hI
  have hf : (T k).2.2.2 = true := hfin _ hc
  obtain ⟨hdecl, hnf⟩ := hi2 hf
  have he := ga_w_at (cA := cA) (ad := ad) (σ := σ) hS
  have hap := va_apart (own := own) hts hin ty hty hnm hK hc
  obtain ⟨r, h1, cell, q1, q2, q3, q4⟩ := hP n _ he
  have hr : r = (C, T, N) := Option.some.inj (h1.symm.trans hc)
  subst hr
  obtain ⟨hSl, hfc, kC, hkC, hkind⟩ := hK.1 ci _ hc
  obtain ⟨cf, kf, fi, f, hi, hsl⟩ := hSl k hkN
  have hlay := hts _ (hin _ (u_in_lay hkN))
  unfold u_lay at hlay
  rw [if_pos hf] at hlay
  have hst := (u_facts hfc hkC (u_lays hts hin hkN) hi).1
  have hcf : m.cls = cf := by
    obtain ⟨_, _, c', _, _, _, -, -, hf', -, -, -, hown2, -⟩ := Cond.laysFinal_spec hlay
    have e1 : c' = cf := by have := hi.symm.trans hf'; simp at this; exact this.1.symm
    rw [hdecl] at hown2
    rw [← e1]; exact Option.some.inj (hown.symm.trans hown2)
  have h6 := u_fits (v := .ref (ad j)) hfc hkC hkind (Or.inr hlay) hi (hty k hkN) (hnf _).1 (hnf _).2
  refine W.putFinK hexec hb hown hlink hi hst hcf hin2 (by rw [q2]; exact h6) q1 q3 (by rw [hsl]; exact k2_hasslot (q4 k hkN)) rfl rfl hdg fun H' e1 e2 e3 => ?_
  rw [hsl] at e1 ⊢
  have hlk := (List.getElem?_eq_some_iff.mp hk).1
  have hl : k < (fs.mapIdx fun k f => ga_fv ad σ n k f).length := by simpa using hlk
  have hP1 := hP.set (e := .inr (ci, (fs.mapIdx fun k f => ga_fv ad σ n k f).set k (.ref (ad j)))) hD he ⟨_, hc, t_OB.to (V := updV (vp_V (fs.mapIdx fun k f => ga_fv ad σ n k f)) k (.ref (ad j))) ⟨_, e1, q2, q3, t_set q4 hap hkN (.ref (ad j))⟩ (fun j _ => vp_updV_set hl _ j)⟩ e3
  have hD1 := hD.set (e := .inr (ci, (fs.mapIdx fun k f => ga_fv ad σ n k f).set k (.ref (ad j)))) he
  rw [ga_w_setR (o := (ci, fs)) hS hlk] at hP1 hD1
  exact kk H' _ ⟨hP1, hD1, hS0.put e2 e3 (hD.2 n _ he), fun h => by rw [e2]; exact hz (by rw [List.length_set] at h; exact h) ▸ by rw [List.length_set]⟩
/-- the kinds of arrays -/
abbrev ga_tys (cA : Nat → ClassId) : List (ClassId × FieldType) := [(cA 0, .int), (cA 1, .byte)]
theorem ga_stA (hP : va_P D vwCl (ga_w cA ad S σ) H) (hD : va_D A (ga_w cA ad S σ)) {n kd len i : Nat} {x : Int32} (hS : S[n]? = some (.inr (kd, len))) (hkd : kd ≠ 2) {H1 : Heap} (e1 : H1[ad n]? = some ((arrV (cA kd) len (fun j => .int (σ n j))).setSlot i (.int x))) (e3 : ∀ q : Nat, q ≠ ad n → H1[q]? = H[q]?) :
    va_P D vwCl (ga_w cA ad S (ga_up σ n i x)) H1 ∧ va_D A (ga_w cA ad S (ga_up σ n i x)) := by
  have he := ga_w_at (cA := cA) (ad := ad) (σ := σ) hS
  have he2 : (ga_w cA ad S σ)[n]? = some (ad n, .inl (cA kd, len, .inl (σ n))) := by rw [he]; simp [ga_cl, hkd]
  have hP1 := hP.set (e := .inl (cA kd, len, .inl (upd (σ n) i x))) hD he2 (by
    show H1[ad n]? = some (vp_cell _ _)
    rw [e1, vp_cell_i, arrV_store]
    congr 1
    show arrV _ _ _ = arrV _ _ _
    congr 1
    funext j
    by_cases hj : j = i <;> simp [updV, upd, hj]) e3
  have hD1 := hD.set (e := .inl (cA kd, len, .inl (upd (σ n) i x))) he2
  rw [ga_w_setA hS hkd] at hP1 hD1
  exact ⟨hP1, hD1⟩
theorem ga_iast (hexec : p.tables.exec = Jvm.exec) (hb : c.code = cc) (hK : va_K D vwCl (ga_tys cA) s) (hI : ga_I D cA A H0 ad NF S σ H locs) {n len : Nat} (hS : S[n]? = some (.inr (0, len))) {i x : Int32} (hin : vp_in i len) (hdg : decode cc pc = .ok (.iastore, 1))
    (kk : ∀ (H1 : Heap) (locs1 : List Loc), ga_I D cA A H0 ad NF S (ga_up σ n i.toNatClampNeg x) H1 locs1 → W p l e R s m args below meth c H1 locs1 cells slots Q (F0 m (pc + 1) ls rest)) : W p l e R s m args below meth c H locs cells slots Q (F0 m pc ls (.int x :: .int i :: .ref (ad n) :: rest)) := by
  obtain ⟨hP, hD, hS0, hz⟩ := hI
  have he := ga_w_at (cA := cA) (ad := ad) (σ := σ) hS
  have hc : H[ad n]? = some (arrV (cA 0) len (fun j => .int (σ n j))) := hP n _ he
  refine W.iast hexec hb hc ((hK.2 0 _ rfl).1 len (fun j => .int (σ n j))) (fun q => by cases q) (by show ¬ (i < 0 ∨ (arrV _ _ _).slots.size ≤ _); rw [arrV_size]; exact hin) rfl rfl hdg fun H1 e z oq => ?_
  obtain ⟨hP1, hD1⟩ := ga_stA hP hD hS (by decide) e oq
  exact kk H1 _ ⟨hP1, hD1, hS0.put z oq (hD.2 n _ he), fun h => by rw [z]; exact hz h⟩
theorem ga_bast (hexec : p.tables.exec = Jvm.exec) (hb : c.code = cc) (hK : va_K D vwCl (ga_tys cA) s) (hI : ga_I D cA A H0 ad NF S σ H locs) {n len : Nat} (hS : S[n]? = some (.inr (1, len))) {i x : Int32} (hin : vp_in i len) (hdg : decode cc pc = .ok (.bastore, 1))
    (kk : ∀ (H1 : Heap) (locs1 : List Loc), ga_I D cA A H0 ad NF S (ga_up σ n i.toNatClampNeg x.toInt8.toInt32) H1 locs1 → W p l e R s m args below meth c H1 locs1 cells slots Q (F0 m (pc + 1) ls rest)) : W p l e R s m args below meth c H locs cells slots Q (F0 m pc ls (.int x :: .int i :: .ref (ad n) :: rest)) := by
  obtain ⟨hP, hD, hS0, hz⟩ := hI
  have he := ga_w_at (cA := cA) (ad := ad) (σ := σ) hS
  have hc : H[ad n]? = some (arrV (cA 1) len (fun j => .int (σ n j))) := hP n _ he
  refine W.bast hexec hb hc ((hK.2 1 _ rfl).1 len (fun j => .int (σ n j))) (fun q => by cases q) (by show ¬ (i < 0 ∨ (arrV _ _ _).slots.size ≤ _); rw [arrV_size]; exact hin) rfl rfl hdg fun H1 e z oq => ?_
  obtain ⟨hP1, hD1⟩ := ga_stA hP hD hS (by decide) e oq
  exact kk H1 _ ⟨hP1, hD1, hS0.put z oq (hD.2 n _ he), fun h => by rw [z]; exact hz h⟩
/-- a new cell, the next one -/
theorem ga_push (had : ∀ k, k + 1 < NF → ad (k + 1) = ad k + 1) (hA : ∀ q, H0.size ≤ q → A q) (hI : ga_I D cA A H0 ad NF S σ H locs) (hn : S.length < NF) {sh : ga_Sh} {H1 : Heap} (z1 : H1.size = H.size + 1) (o1 : ∀ q : Nat, q < H.size → H1[q]? = H[q]?)
    (h : va_at D vwCl (ga_cl cA ad (ga_z σ S.length) S.length sh) H1) : ga_I D cA A H0 ad NF (S ++ [sh]) (ga_z σ S.length) H1 locs := by
  obtain ⟨hP, hD, hS0, hz⟩ := hI
  have hq := hz hn
  have hk : ∀ (k : Nat) (x : Nat × va_E), (ga_w cA ad S σ)[k]? = some x → H1[x.1]? = H[x.1]? := fun k x hx => o1 x.1 ((hP k x hx).lt)
  have hP1 : va_P D vwCl (ga_w cA ad S σ ++ [ga_cl cA ad (ga_z σ S.length) S.length sh]) H1 := (hP.kept hk).app (fun k x hx => by
    have hl : k < 1 := (List.getElem?_eq_some_iff.mp hx).1
    rw [show k = 0 by omega] at hx
    cases hx
    exact h)
  have hD1 : va_D A (ga_w cA ad S σ ++ [ga_cl cA ad (ga_z σ S.length) S.length sh]) := hD.push hP (show ad S.length = H.size from hq.symm) (hA _ (by rw [← hq]; exact hS0.1))
  rw [ga_w_push] at hP1 hD1
  refine ⟨hP1, hD1, ⟨Nat.le_trans hS0.1 (by omega), fun x h1 h2 => (o1 x (Nat.lt_of_lt_of_le h1 hS0.1)).trans (hS0.2.1 x h1 h2), hS0.2.2⟩, fun h => ?_⟩
  rw [List.length_append] at h ⊢
  show H1.size = ad (S.length + 1)
  rw [z1, had _ h, hq]
theorem ga_new (hexec : p.tables.exec = Jvm.exec) (hb : c.code = cc) {own : String} {Ts : List Cond} {idx ci : Nat} {C : String} {T : u_T} {N : Nat} {ty : Nat → FieldType} {fs : List ga_F} (hts : ∀ w ∈ Ts, w.before args s = true) (hown : s.vm.findClass own = some m.cls) (hK : va_K D vwCl tys s) (had : ∀ k, k + 1 < NF → ad (k + 1) = ad k + 1) (hA : ∀ q, H0.size ≤ q → A q) (hI : ga_I D cA A H0 ad NF S σ H locs)
    (hc : vwCl[ci]? = some (C, T, N)) (hin : ∀ w ∈ u_ws C T N, w ∈ Ts) (hty : ∀ k, k < N → parseFieldDescriptor (T k).2.2.1 = some (ty k)) (hcl : (Cond.classLink own idx C).before args s = true) (hinst : (Cond.instantiable C N).before args s = true) (hini : (Cond.initialized C).before args s = true)
    (hfs : ∀ j, j < N → defaultValue (ty j) = vp_V (fs.mapIdx fun k f => ga_fv ad (ga_z σ S.length) S.length k f) j) (hn : S.length < NF) (hcells : cells + 1 ≤ R.cells) (hslots : slots + N ≤ R.slots) (hdg : decode cc pc = .ok (.new idx, 3))
    (kk : ∀ (H1 : Heap), ga_I D cA A H0 ad NF (S ++ [.inl (ci, fs)]) (ga_z σ S.length) H1 locs → W p l e R s m args below meth c H1 locs (cells + 1) (slots + N) Q (F0 m (pc + 3) ls (.ref (ad S.length) :: rest))) : W p l e R s m args below meth c H locs cells slots Q (F0 m pc ls rest) := by
  have hKn := hK.1 ci _ hc
  have hq := hI.2.2.2 hn
  refine W.newcK hexec hb hown hcl hinst hini rfl hdg hcells hslots hKn.2.1 rfl fun H1 kC hkC e1 z1 o1 => ?_
  rw [hq] at e1
  have h1 : va_at D vwCl (ga_cl cA ad (ga_z σ S.length) S.length (.inl (ci, fs))) H1 := ⟨_, hc, (u_born ty hts hin hKn hkC e1 hty).to hfs⟩
  have := kk H1 (ga_push had hA hI hn z1 o1 h1)
  rw [← hq] at this
  exact this
theorem ga_newa (hexec : p.tables.exec = Jvm.exec) (hb : c.code = cc) {kd : Nat} {ty : FieldType} {atype : ArrayType} (harr : (Cond.arrayClass (newarray.typeOf atype)).before args s = true) (hty : newarray.typeOf atype = ty) (hkd : (ga_tys cA)[kd]? = some (cA kd, ty)) (hdef : defaultValue ty = if kd = 2 then .long 0 else .int 0) (hnr : ∀ C, ty ≠ .object C) (hcb : componentBytes ty ≤ 8)
    (hK : va_K D vwCl (ga_tys cA) s) (had : ∀ k, k + 1 < NF → ad (k + 1) = ad k + 1) (hA : ∀ q, H0.size ≤ q → A q) (hI : ga_I D cA A H0 ad NF S σ H locs) {n : Int32} (hn0 : ¬ n < 0) (hn : S.length < NF) (hbytes : n.toNatClampNeg ≤ 60000) (hcells : cells + 1 ≤ R.cells) (hslots : slots + n.toNatClampNeg ≤ R.slots) (hdg : decode cc pc = .ok (.newarray atype, 2))
    (kk : ∀ (H1 : Heap), ga_I D cA A H0 ad NF (S ++ [.inr (kd, n.toNatClampNeg)]) (ga_z σ S.length) H1 locs → W p l e R s m args below meth c H1 locs (cells + 1) (slots + n.toNatClampNeg) Q (F0 m (pc + 2) ls (.ref (ad S.length) :: rest))) : W p l e R s m args below meth c H locs cells slots Q (F0 m pc ls (.int n :: rest)) := by
  have hq := hI.2.2.2 hn
  have hK2 := (hK.2 kd _ hkd).2
  refine va_newaK hexec hb harr rfl hdg rfl hn0 rfl (by rw [hty]; exact Nat.le_trans (Nat.mul_le_mul hbytes hcb) (by decide)) hcells hslots hq fun H1 cA1 e1 z1 o1 hAr hNm => ?_
  rw [hty] at e1 hNm
  have hcA : cA1 = cA kd := by
    have h3 : s.vm.findClass ("[" ++ ty.toString) = some (cA kd) := by
      cases ty with
      | object C => exact absurd rfl (hnr C)
      | _ => exact hK2
    exact Option.some.inj (hNm.symm.trans h3)
  subst hcA
  have h1 : va_at D vwCl (ga_cl cA ad (ga_z σ S.length) S.length (.inr (kd, n.toNatClampNeg))) H1 := by
    show H1[ad S.length]? = some (vp_cell _ _)
    rw [e1]
    by_cases h2 : kd = 2
    · rw [if_pos h2]
      rw [hdef, if_pos h2, vp_cell_l]
      simp [ga_z_self]
    · rw [if_neg h2]
      rw [hdef, if_neg h2, vp_cell_i]
      simp [ga_z_self]
  exact kk H1 (ga_push had hA hI hn (by rw [z1, hq]) (fun q h => o1 q (by rw [← hq]; exact h)) h1)
end GA3
