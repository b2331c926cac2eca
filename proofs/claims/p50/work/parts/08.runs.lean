section GA6
variable {α : Type}
/-- what a run of a method's code from cfg, with the answer r, stands for in the JVM, wherever the method stands -/
def ga_T (own : String) (cc : ByteArray) (code : Nat → Option ga_E) (g : ga_G) (cost : Nat → Nat × Nat) (hnd : Nat → ga_H) (cls : Nat → List ga_F) (NF RC RS : Nat) (ini lf wr : Bool) (scr : Option (Nat × Nat × (Nat → Int32))) (PS : ga_S → ga_M → Prop) (K0 : ga_O → Option α) (cfg : ga_C) (r : α) : Prop :=
  ∀ (p : Program) (l : Launch) (e : Env) (R : Room) (s : State) (m : MethodId) (args : Array Value) (below : List Frame) (meth : Method) (c : Code) (Q : State → Prop) (Ts : List Cond) (D : va_G) (cA : Nat → ClassId) (ad : Nat → Nat) (A : Nat → Prop) (exn : Nat → String) (cb sb : Nat) (Φ : ga_O → Prop),
    ga_Ok p l e R s m args below meth c Q cc own Ts D cA ad A code g cost hnd cls NF RC RS ini lf wr scr exn cb sb Φ PS → (∀ o', K0 o' = some r → PS o'.2.1 o'.2.2 → Φ o') → ga_W p l e R s m args below meth c Q D cA ad A NF RC RS lf cb sb PS cfg
variable {cc : ByteArray} {own : String} {code : Nat → Option ga_E} {g : ga_G} {cost : Nat → Nat × Nat} {hnd : Nat → ga_H} {cls : Nat → List ga_F} {NF RC RS : Nat} {ini lf wr : Bool} {scr : Option (Nat × Nat × (Nat → Int32))} {PS : ga_S → ga_M → Prop} {K0 : ga_O → Option α}
theorem ga_T_step {k : ga_C → Option α} {r : α} (hk : ∀ c, k c = some r → ga_T own cc code g cost hnd cls NF RC RS ini lf wr scr PS K0 c r) {cfg : ga_C} (h : ga_step K0 code g cost hnd cls NF RC RS ini lf wr scr cfg k = some r) : ga_T own cc code g cost hnd cls NF RC RS ini lf wr scr PS K0 cfg r :=
  fun p l e R s m args below meth c Q Ts D cA ad A exn cb sb Φ ok hΦ => ga_sound ok (fun c1 h1 => hk c1 h1 p l e R s m args below meth c Q Ts D cA ad A exn cb sb Φ ok hΦ) h hΦ
theorem ga_T_ev {sp : ga_C → Option (Option α)} {r : α} (hsp : ∀ c, sp c = some (some r) → ga_T own cc code g cost hnd cls NF RC RS ini lf wr scr PS K0 c r) : ∀ (n : Nat) (cfg : ga_C), ga_ev (ga_step K0 code g cost hnd cls NF RC RS ini lf wr scr) sp n cfg = some r → ga_T own cc code g cost hnd cls NF RC RS ini lf wr scr PS K0 cfg r
  | 0, _, h => (by cases h)
  | n + 1, cfg, h => by
    unfold ga_ev at h
    split at h
    · rename_i q hq
      exact hsp _ (by rw [hq, h])
    · exact ga_T_step (fun c1 h1 => ga_T_ev hsp n c1 h1) h
/-- from a head on: a step, then on to the next stop -/
theorem ga_T_go {sp : ga_C → Option (Option α)} {r : α} (hsp : ∀ c, sp c = some (some r) → ga_T own cc code g cost hnd cls NF RC RS ini lf wr scr PS K0 c r) {n : Nat} {cfg : ga_C} (h : ga_step K0 code g cost hnd cls NF RC RS ini lf wr scr cfg (ga_ev (ga_step K0 code g cost hnd cls NF RC RS ini lf wr scr) sp n) = some r) : ga_T own cc code g cost hnd cls NF RC RS ini lf wr scr PS K0 cfg r :=
  ga_T_step (fun c1 h1 => ga_T_ev hsp n c1 h1) h
/-- the shapes are those that the method knows -/
theorem ga_T_S {pc : Nat} {L : ga_Lo} {st : List Value} {S : ga_S} {σ : ga_M} {kc ks : Nat} {r : α} (h : PS S σ → ga_T own cc code g cost hnd cls NF RC RS ini lf wr scr PS K0 (pc, L, st, S, σ, kc, ks) r) : ga_T own cc code g cost hnd cls NF RC RS ini lf wr scr PS K0 (pc, L, st, S, σ, kc, ks) r :=
  fun p l e R s m args below meth c Q Ts D cA ad A exn cb sb Φ ok hΦ hf hp => h hp p l e R s m args below meth c Q Ts D cA ad A exn cb sb Φ ok hΦ hf hp
/-- what a method's code answers, by the kind of its answer -/
def ga_kI : ga_O → Option (Int32 × ga_M)
  | (.inl (some (.int x)), _, σ) => some (x, σ)
  | _ => none
def ga_kJ : ga_O → Option (Int64 × ga_M)
  | (.inl (some (.long x)), _, σ) => some (x, σ)
  | _ => none
def ga_kD : ga_O → Option (UInt64 × ga_M)
  | (.inl (some (.double x)), _, σ) => some (x, σ)
  | _ => none
def ga_kA : ga_O → Option (Nat × ga_M)
  | (.inl (some (.ref x)), _, σ) => some (x, σ)
  | _ => none
def ga_kV : ga_O → Option ga_M
  | (.inl none, _, σ) => some σ
  | _ => none
/-- .. of one that may throw -/
def ga_kIX : ga_O → Option ((Int32 ⊕ Nat) × ga_M)
  | (.inl (some (.int x)), _, σ) => some (.inl x, σ)
  | (.inr E, _, σ) => some (.inr E, σ)
  | _ => none
def ga_kVX : ga_O → Option (Option Nat × ga_M)
  | (.inl none, _, σ) => some (none, σ)
  | (.inr E, _, σ) => some (some E, σ)
  | _ => none
/-- .. of one that only reads -/
def gp_kI : ga_O → Option Int32
  | (.inl (some (.int x)), _, _) => some x
  | _ => none
def gp_kJ : ga_O → Option Int64
  | (.inl (some (.long x)), _, _) => some x
  | _ => none
def gp_kD : ga_O → Option UInt64
  | (.inl (some (.double x)), _, _) => some x
  | _ => none
def gp_kA : ga_O → Option Nat
  | (.inl (some (.ref x)), _, _) => some x
  | _ => none
def gp_kIX : ga_O → Option (Int32 ⊕ Nat)
  | (.inl (some (.int x)), _, _) => some (.inl x)
  | (.inr E, _, _) => some (.inr E)
  | _ => none
def gp_kVX : ga_O → Option (Option Nat)
  | (.inl none, _, _) => some none
  | (.inr E, _, _) => some (some E)
  | _ => none
/-- a code table, looked up -/
def ga_lk : List (Nat × ga_E) → Nat → Option ga_E
  | [], _ => none
  | q :: r, pc => match Nat.beq pc q.1 with
    | true => some q.2
    | false => ga_lk r pc
end GA6
