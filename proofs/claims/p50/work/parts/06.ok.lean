/-- what a row of the code table must be, by the instruction -/
def ga_hd (sw : List (Int32 × Nat)) (f : Int32 → Bool) : Bool := match sw with
  | q :: _ => f q.1
  | [] => false
def ga_tb (pc : Nat) (off : Int) (t : Nat) : Bool := decide ((pc : Int) + off = (t : Int))
def ga_chk (pc : Nat) (ins : Instr) (len r1 : Nat) (sw : List (Int32 × Nat)) : Bool := match ins with
  | .iconst n => len == 1 && ga_hd sw fun v => decide (Int32.ofInt n = v)
  | .bipush n => len == 2 && ga_hd sw fun v => decide ((Int8.ofInt n).toInt32 = v)
  | .sipush n => len == 3 && ga_hd sw fun v => decide ((Int16.ofInt n).toInt32 = v)
  | .ldc _ => len == 2
  | .ldc_w _ => len == 3
  | .lconst n => len == 1 && ga_hd sw fun v => decide (Int64.ofNat (n : Nat) = v.toInt64)
  | .ldc2_w _ => len == 3
  | .dconst n => len == 1 && decide (n = if r1 = 0 then 0 else 1)
  | .iload_n n => len == 1 && (n : Nat) == r1
  | .iload n => len == 2 && n == r1
  | .lload_n n => len == 1 && (n : Nat) == r1
  | .lload n => len == 2 && n == r1
  | .dload_n n => len == 1 && (n : Nat) == r1
  | .dload n => len == 2 && n == r1
  | .aload_n n => len == 1 && (n : Nat) == r1
  | .aload n => len == 2 && n == r1
  | .istore_n n => len == 1 && (n : Nat) == r1
  | .istore n => len == 2 && n == r1
  | .astore_n n => len == 1 && (n : Nat) == r1
  | .astore n => len == 2 && n == r1
  | .lstore_n n => len == 1 && (n : Nat) == r1
  | .lstore n => len == 2 && n == r1
  | .dstore_n n => len == 1 && (n : Nat) == r1
  | .dstore n => len == 2 && n == r1
  | .iinc i n => len == 3 && (i == r1 && ga_hd sw fun v => decide (Int32.ofInt n = v))
  | .ifCond _ off => len == 3 && ga_tb pc off r1
  | .if_icmp _ off => len == 3 && ga_tb pc off r1
  | .goto off => len == 3 && ga_tb pc off r1
  | .tableswitch d lo hi offs => ga_tb pc d r1 && (decide (hi = lo + (offs.size : Int) - 1) && (sw.length == offs.size && (List.range offs.size).all fun i => match sw[i]?, offs[i]? with
      | some q, some o => decide (q.1.toInt = lo + (i : Int)) && ga_tb pc o q.2
      | _, _ => false))
  | .lookupswitch d ps => ga_tb pc d r1 && (sw.length == ps.size && ((ps.toList.zip (ps.toList.drop 1)).all (fun (a, next) => a.1 < next.1) && (sw.zip ps.toList).all fun q => decide (q.1.1.toInt = q.2.1) && ga_tb pc q.2.2 q.1.2))
  | .getfield _ => len == 3
  | .putfield _ => len == 3
  | .new _ => len == 3
  | .newarray _ => len == 2
  | .invokevirtual _ => len == 3
  | .invokestatic _ => len == 3
  | .invokespecial _ => len == 3
  | _ => len == 1
/-- the return that answers v -/
def ga_ri (cc : ByteArray) (pc : Nat) (v : Option Value) : Prop := match v with
  | some (.int _) => decode cc pc = .ok (.ireturn, 1)
  | some (.long _) => decode cc pc = .ok (.lreturn, 1)
  | some (.double _) => decode cc pc = .ok (.dreturn, 1)
  | some (.ref _) => decode cc pc = .ok (.areturn, 1)
  | none => decode cc pc = .ok (.return_, 1)
  | _ => False
section GA4
variable (p : Program) (l : Launch) (e : Env) (R : Room) (s : State) (m : MethodId) (args : Array Value) (below : List Frame) (meth : Method) (c : Code) (Q : State → Prop)
variable (cc : ByteArray) (own : String) (Ts : List Cond) (D : va_G) (cA : Nat → ClassId) (ad : Nat → Nat) (A : Nat → Prop) (code : Nat → Option ga_E) (g : ga_G) (cost : Nat → Nat × Nat) (hnd : Nat → ga_H) (cls : Nat → List ga_F) (NF RC RS : Nat) (ini lf wr : Bool) (scr : Option (Nat × Nat × (Nat → Int32))) (exn : Nat → String) (cb sb : Nat) (Φ : ga_O → Prop) (PS : ga_S → ga_M → Prop)
/-- what the machine's state cfg stands for -/
def ga_W (cfg : ga_C) : Prop := ga_lf lf cfg.2.1 → PS cfg.2.2.2.1 cfg.2.2.2.2.1 → cfg.2.2.2.2.2.1 ≤ RC → cfg.2.2.2.2.2.2 ≤ RS → ∀ (H : Heap) (locs : List Loc) (ls : Array Slot), ga_I D cA A s.heap ad NF cfg.2.2.2.1 cfg.2.2.2.2.1 H locs → ga_L ad ls c.maxLocals cfg.2.1 →
  W p l e R s m args below meth c H locs (cb + cfg.2.2.2.2.2.1) (sb + cfg.2.2.2.2.2.2) Q (F0 m cfg.1 ls (cfg.2.2.1.map (ga_v ad)))
/-- a call's row -/
def ga_CallOk : Prop := ∀ (pc : Nat) (ins : Instr) (len mid na : Nat) (sw : List (Int32 × Nat)), code pc = some (ins, len, mid, na, sw) → ((∃ i, ins = .invokevirtual i) ∨ (∃ i, ins = .invokestatic i) ∨ (∃ i, ins = .invokespecial i) ∧ mid ≠ 0) →
  ∀ (as r : List Value) (S : ga_S) (σ : ga_M) (o : ga_O) (kc ks : Nat), PS S σ → as.length = na → (r.map fun v => v.category).sum ≤ 8 → g ga_O mid as S σ some = some o → (∀ i q r', ins = .invokevirtual i → sw = q :: r' → ∃ n fs as', as = .ref n :: as' ∧ S[n]? = some (.inl (q.2, fs))) → kc + (cost mid).1 ≤ RC → ks + (cost mid).2 ≤ RS →
  ∀ (H : Heap) (locs : List Loc) (ls : Array Slot), ga_I D cA A s.heap ad NF S σ H locs → ls.size = c.maxLocals →
  (∀ v, o.1 = .inl v → ∀ (H1 : Heap) (locs1 : List Loc), ga_I D cA A s.heap ad NF o.2.1 o.2.2 H1 locs1 → W p l e R s m args below meth c H1 locs1 (cb + (kc + (cost mid).1)) (sb + (ks + (cost mid).2)) Q (F0 m (pc + 3) ls ((v.toList ++ r).map (ga_v ad)))) →
  (∀ E, o.1 = .inr E → ∀ (H1 : Heap) (locs1 : List Loc) (q : Addr) (ce : Cell), ga_I D cA A s.heap ad NF o.2.1 o.2.2 H1 locs1 → H1[q]? = some ce → ce.vm = .none → s.vm.findClass (exn E) = some ce.cls → vx_W p l e R s m args below meth c H1 locs1 (cb + (kc + (cost mid).1)) (sb + (ks + (cost mid).2)) Q (F0 m pc ls (r.map (ga_v ad))) q) →
  W p l e R s m args below meth c H locs (cb + kc) (sb + ks) Q (F0 m pc ls ((as.reverse ++ r).map (ga_v ad)))
/-- a throw's row -/
def ga_ThrOk : Prop := ∀ (pc idx len r1 r2 : Nat) (sw : List (Int32 × Nat)), code pc = some (.new idx, len, r1, r2, sw) → 1000 ≤ r1 → ∀ (st : List Value) (S : ga_S) (σ : ga_M) (kc ks : Nat), st.length ≤ 4 → kc + 1 ≤ RC → ks + 6 ≤ RS → Φ (.inr (r1 - 1000), S, σ) →
  ∀ (H : Heap) (locs : List Loc) (ls : Array Slot), ga_I D cA A s.heap ad NF S σ H locs → ls.size = c.maxLocals → W p l e R s m args below meth c H locs (cb + kc) (sb + ks) Q (F0 m pc ls (st.map (ga_v ad)))
/-- not caught: out -/
def ga_ExcOk : Prop := ∀ (E : Nat) (S : ga_S) (σ : ga_M), Φ (.inr E, S, σ) → ∀ (pc : Nat) (st : List Value) (kc ks : Nat), (∀ q ∈ hnd pc, E ≠ q.1) → kc ≤ RC → ks ≤ RS → ∀ (H : Heap) (locs : List Loc) (ls : Array Slot) (q : Addr) (ce : Cell), ga_I D cA A s.heap ad NF S σ H locs → ls.size = c.maxLocals → H[q]? = some ce → ce.vm = .none → s.vm.findClass (exn E) = some ce.cls →
  vx_W p l e R s m args below meth c H locs (cb + kc) (sb + ks) Q (F0 m pc ls (st.map (ga_v ad))) q
/-- caught -/
def ga_CatOk : Prop := ∀ (pc E : Nat) (pre : ga_H) (h : Nat × Nat × Nat) (suf : ga_H), (hnd pc = pre ++ h :: suf ∧ (∀ z ∈ pre, E ≠ z.1) ∧ E = h.1) → ∀ (st : List Value) (L : ga_Lo) (S : ga_S) (σ : ga_M) (kc ks : Nat) (H : Heap) (locs : List Loc) (ls : Array Slot) (q : Addr) (ce : Cell), ¬ S.length < NF → ga_lf lf L → ga_I D cA A s.heap ad NF S σ H locs → ga_L ad ls c.maxLocals L → H[q]? = some ce → ce.vm = .none → s.vm.findClass (exn E) = some ce.cls →
  (∀ ls' : Array Slot, ga_L ad ls' c.maxLocals (L.set h.2.2 none) → W p l e R s m args below meth c H locs (cb + kc) (sb + ks) Q (F0 m h.2.1 ls' [])) → vx_W p l e R s m args below meth c H locs (cb + kc) (sb + ks) Q (F0 m pc ls (st.map (ga_v ad))) q
def ga_RetOk : Prop := ∀ (v : Option Value) (S : ga_S) (σ : ga_M), Φ (.inl v, S, σ) → ∀ (pc kc ks : Nat), kc ≤ RC → ks ≤ RS → ga_ri cc pc v → ∀ (H : Heap) (locs : List Loc) (ls : Array Slot), ga_I D cA A s.heap ad NF S σ H locs → W p l e R s m args below meth c H locs (cb + kc) (sb + ks) Q (F0 m pc ls (v.toList.map (ga_v ad)))
/-- where the method stands: all that its steps rest on -/
def ga_Ok : Prop :=
  p.tables.exec = Jvm.exec ∧ c.code = cc ∧ s.vm.findClass own = some m.cls ∧ (∀ w ∈ Ts, w.before args s = true) ∧ va_K D vwCl (ga_tys cA) s ∧ (∀ q, s.heap.size ≤ q → A q) ∧ (∀ k, k + 1 < NF → ad (k + 1) = ad k + 1) ∧
  (cb + RC ≤ R.cells ∧ sb + RS ≤ R.slots ∧ 1 ≤ R.frames ∧ 30 ≤ R.locals) ∧ (ini = true → meth.name = "<init>") ∧ (∀ q, scr = some q → va_X (ad q.1) q.2.1 q.2.2 s s.heap ∧ ad q.1 < s.heap.size ∧ ¬ A (ad q.1)) ∧
  (∀ pc ins len r1 r2 sw, code pc = some (ins, len, r1, r2, sw) → decode cc pc = .ok (ins, len) ∧ ga_chk pc ins len r1 sw = true) ∧
  (∀ pc idx len r1 r2 sw, code pc = some (.getfield idx, len, r1, r2, sw) → ga_Fg own args s Ts idx r1 r2) ∧
  (∀ pc idx len r1 r2 sw, code pc = some (.putfield idx, len, r1, r2, sw) → ga_Fd own args s Ts idx r1 r2 ∧ ∀ q, vwCl[r1]? = some q → (q.2.1 r2).2.2.2 = !sw.isEmpty) ∧
  (∀ pc idx len r1 r2 sw, code pc = some (.new idx, len, r1, r2, sw) → r1 < 1000 → ∃ (C : String) (T : u_T) (ty : Nat → FieldType), vwCl[r1]? = some (C, T, r2) ∧ (∀ w ∈ u_ws C T r2, w ∈ Ts) ∧ (∀ k, k < r2 → parseFieldDescriptor (T k).2.2.1 = some (ty k)) ∧ (Cond.classLink own idx C).before args s = true ∧ (Cond.instantiable C r2).before args s = true ∧ (Cond.initialized C).before args s = true ∧ (∀ j, j < r2 → ((cls r1)[j]? = some none ∧ defaultValue (ty j) = .int 0) ∨ ((cls r1)[j]? = some (some none) ∧ defaultValue (ty j) = .null))) ∧
  (∀ pc at' len r1 r2 sw, code pc = some (.newarray at', len, r1, r2, sw) → (Cond.arrayClass (newarray.typeOf at')).before args s = true ∧ ∃ ty, newarray.typeOf at' = ty ∧ (ga_tys cA)[r1]? = some (cA r1, ty) ∧ defaultValue ty = (if r1 = 2 then .long 0 else .int 0) ∧ (∀ C, ty ≠ .object C) ∧ componentBytes ty ≤ 8) ∧
  (∀ pc idx len r2 sw, code pc = some (.invokespecial idx, len, 0, r2, sw) → (Cond.methodLink own idx objectInit).before args s = true ∧ (Cond.instanceMethod objectInit).before args s = true ∧ (Cond.code objectInit ⟨#[0xb1]⟩ 1 none).before args s = true) ∧
  ((∀ pc idx len r1 r2, (code pc = some (.ldc idx, len, r1, r2, []) ∨ code pc = some (.ldc_w idx, len, r1, r2, [])) → ∃ tx, vk_R own idx tx (ad r1) s) ∧ ∀ pc idx len r1 r2 q r, (code pc = some (.ldc idx, len, r1, r2, q :: r) ∨ code pc = some (.ldc_w idx, len, r1, r2, q :: r)) → (Jvm.Cond.constant own idx q.1).before args s = true) ∧
  (∀ pc idx len r1 r2 sw, code pc = some (.ldc2_w idx, len, r1, r2, sw) → ∃ q r, sw = q :: r ∧ (Cond.constantDouble own idx (FP.i2d q.1)).before args s = true) ∧
  (((∀ S σ, PS S σ) ∨ (((∀ S σ, PS S σ → ¬ S.length < NF) ∨ ((∀ pc idx len r1 r2 sw, code pc = some (.new idx, len, r1, r2, sw) → 1000 ≤ r1) ∧ ∀ pc at' len r1 r2 sw, code pc ≠ some (.newarray at', len, r1, r2, sw))) ∧ ini = false)) ∧ (wr = true → ∀ S σ σ1, PS S σ → PS S σ1) ∧ (∀ mid as S σ o, PS S σ → g ga_O mid as S σ some = some o → PS o.2.1 o.2.2) ∧ (∀ (α : Type) mid as S σ (k : ga_O → Option α) o, g α mid as S σ k = some o → ∃ o1, g ga_O mid as S σ some = some o1 ∧ k o1 = some o)) ∧
  ga_CallOk p l e R s m args below meth c Q D cA ad A code g cost NF RC RS exn cb sb PS ∧ ga_ThrOk p l e R s m args below meth c Q D cA ad A code NF RC RS cb sb Φ ∧ ga_ExcOk p l e R s m args below meth c Q D cA ad A hnd NF RC RS exn cb sb Φ ∧ ga_CatOk p l e R s m args below meth c Q D cA ad A hnd NF lf exn cb sb ∧ ga_RetOk p l e R s m args below meth c Q cc D cA ad A NF RC RS cb sb Φ
end GA4
