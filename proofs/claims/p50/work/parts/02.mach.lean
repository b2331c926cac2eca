/-! ===== THE SMALL MACHINE: whole numbers, texts and the cells of the two objects by number; a step of it is a step of the JVM (ga_sound) ===== -/
section GA0
/-- a field: none = a number; some none = null; some (some j) = the cell j -/
abbrev ga_F : Type := Option (Option Nat)
/-- a cell's shape: an object of a class, or an array (0 int, 1 byte, 2 long) of a length -/
abbrev ga_Sh : Type := (Nat × List ga_F) ⊕ (Nat × Nat)
abbrev ga_S : Type := List ga_Sh
abbrev ga_M : Type := Nat → Nat → Int32
abbrev ga_Lo : Type := List (Option Value)
abbrev ga_C : Type := Nat × ga_Lo × List Value × ga_S × ga_M × Nat × Nat
abbrev ga_O : Type := (Option Value ⊕ Nat) × ga_S × ga_M
abbrev ga_E : Type := Instr × Nat × Nat × Nat × List (Int32 × Nat)
abbrev ga_G : Type 1 := ∀ α : Type, Nat → List Value → ga_S → ga_M → (ga_O → Option α) → Option α
/-- handlers at a place: the exception, the place behind the handler's store, the local stored -/
abbrev ga_H : Type := List (Nat × Nat × Nat)
variable {α : Type}
def ga_up (σ : ga_M) (n k : Nat) (x : Int32) : ga_M := fun a => if a = n then upd (σ n) k x else σ a
def ga_z (σ : ga_M) (n : Nat) : ga_M := fun a => if a = n then fun _ => 0 else σ a
def ga_sw (k : Nat → Option α) (x : Int32) (d : Nat) : List (Int32 × Nat) → Option α
  | [] => k d
  | q :: r => if x = q.1 then k q.2 else ga_sw k x d r
def ga_cat2 (L : ga_Lo) (i : Nat) : Bool := match L[i]? with
  | some (some (.long _)) => true
  | some (some (.double _)) => true
  | _ => false
def ga_pre (L : ga_Lo) (i : Nat) : Bool := match i with
  | 0 => false
  | j + 1 => ga_cat2 L j
/-- a store of one slot, of two -/
def ga_s1 (lf : Bool) (L : ga_Lo) (i : Nat) (v : Value) : Option ga_Lo := if i < L.length then (if (match lf with | true => false | false => ga_pre L i) = true then none else some (L.set i (some v))) else none
def ga_s2 (lf : Bool) (L : ga_Lo) (i : Nat) (v : Value) : Option ga_Lo := if i + 1 < L.length then (if (lf || ga_pre L i) = true then none else some ((L.set i (some v)).set (i + 1) none)) else none
def ga_pI (sw : List (Int32 × Nat)) (k : Int32 → Option α) : Option α := match sw with
  | [] => none
  | q :: _ => k q.1
def ga_ldc (sw : List (Int32 × Nat)) (r1 : Nat) (k : Value → Option α) : Option α := match sw with
  | [] => k (.ref r1)
  | q :: _ => k (.int q.1)
def ga_iL (L : ga_Lo) (i : Nat) (k : Int32 → Option α) : Option α := match L[i]? with
  | some (some (.int x)) => k x
  | _ => none
def ga_jL (L : ga_Lo) (i : Nat) (k : Int64 → Option α) : Option α := match L[i]? with
  | some (some (.long x)) => k x
  | _ => none
def ga_dL (L : ga_Lo) (i : Nat) (k : UInt64 → Option α) : Option α := match L[i]? with
  | some (some (.double x)) => k x
  | _ => none
def ga_aL (L : ga_Lo) (i : Nat) (k : Nat → Option α) : Option α := match L[i]? with
  | some (some (.ref x)) => k x
  | _ => none
def ga_i1 (st : List Value) (k : Int32 → List Value → Option α) : Option α := match st with
  | .int x :: r => k x r
  | _ => none
def ga_j1 (st : List Value) (k : Int64 → List Value → Option α) : Option α := match st with
  | .long x :: r => k x r
  | _ => none
def ga_d1 (st : List Value) (k : UInt64 → List Value → Option α) : Option α := match st with
  | .double x :: r => k x r
  | _ => none
def ga_a1 (st : List Value) (k : Nat → List Value → Option α) : Option α := match st with
  | .ref x :: r => k x r
  | _ => none
def ga_i2 (st : List Value) (k : Int32 → Int32 → List Value → Option α) : Option α := ga_i1 st fun y r => ga_i1 r fun x r => k x y r
def ga_j2 (st : List Value) (k : Int64 → Int64 → List Value → Option α) : Option α := ga_j1 st fun y r => ga_j1 r fun x r => k x y r
def ga_d2 (st : List Value) (k : UInt64 → UInt64 → List Value → Option α) : Option α := ga_d1 st fun y r => ga_d1 r fun x r => k x y r
def ga_u1 (st : List Value) (k : Value → List Value → Option α) : Option α := match st with
  | v :: r => if v.category = 1 then k v r else none
  | _ => none
def ga_oL (L : Option ga_Lo) (k : ga_Lo → Option α) : Option α := match L with
  | some L => k L
  | none => none
/-- an object's field -/
def ga_fld (S : ga_S) (σ : ga_M) (n ci i : Nat) (k : Value → Option α) : Option α := match S[n]? with
  | some (.inl o) => if o.1 = ci then (match o.2[i]? with
    | some none => k (.int (σ n i))
    | some (some (some j)) => k (.ref j)
    | _ => none) else none
  | _ => none
def ga_pfd (rf ini : Bool) (S : ga_S) (σ : ga_M) (n ci i : Nat) (v : Value) (k : ga_S → ga_M → Option α) : Option α := match S[n]? with
  | some (.inl o) => if o.1 = ci then (match o.2[i]?, v with
    | some none, .int x => if rf = true then none else k S (ga_up σ n i x)
    | some (some none), .ref j => if rf = true ∧ ini = true then (if j < S.length then k (S.set n (.inl (o.1, o.2.set i (some (some j))))) σ else none) else none
    | _, _ => none) else none
  | _ => none
/-- an array of a kind: its length -/
def ga_arr (S : ga_S) (n kd : Nat) (k : Nat → Option α) : Option α := match S[n]? with
  | some (.inr a) => if a.1 = kd then k a.2 else none
  | _ => none
def ga_alen (S : ga_S) (scr : Option (Nat × Nat × (Nat → Int32))) (n : Nat) (k : Int32 → Option α) : Option α := match S[n]? with
  | some (.inr a) => if a.1 < 2 then k (Int32.ofNat a.2) else none
  | some (.inl _) => none
  | none => (match scr with
    | some q => if n = q.1 then k (Int32.ofNat q.2.1) else none
    | none => none)
def ga_iald (S : ga_S) (σ : ga_M) (scr : Option (Nat × Nat × (Nat → Int32))) (n : Nat) (i : Int32) (k : Int32 → Option α) : Option α := match S[n]? with
  | some (.inr a) => if a.1 = 0 then (if i < 0 ∨ a.2 ≤ i.toNatClampNeg then none else k (σ n i.toNatClampNeg)) else none
  | some (.inl _) => none
  | none => (match scr with
    | some q => if n = q.1 then (if i < 0 ∨ q.2.1 ≤ i.toNatClampNeg then none else k (q.2.2 i.toNatClampNeg)) else none
    | none => none)
def ga_hn (k0 : Option α) (k : Nat × Nat → Option α) (E : Nat) : ga_H → Option α
  | [] => k0
  | q :: r => if E = q.1 then k q.2 else ga_hn k0 k E r
def ga_ret (K0 : ga_O → Option α) (hn : ga_H) (NF pc : Nat) (L : ga_Lo) (rest : List Value) (k : Nat → ga_Lo → List Value → ga_S → ga_M → Option α) (o : ga_O) : Option α := match o with
  | (.inl v, S1, σ1) => k (pc + 3) L (v.toList ++ rest) S1 σ1
  | (.inr E, S1, σ1) => ga_hn (K0 (.inr E, S1, σ1)) (fun q => if S1.length < NF then none else k q.1 (L.set q.2 none) [] S1 σ1) E hn
def ga_call (K0 : ga_O → Option α) (g : ga_G) (hnd : Nat → ga_H) (NF pc mid na : Nat) (L : ga_Lo) (st : List Value) (S : ga_S) (σ : ga_M) (k : Nat → ga_Lo → List Value → ga_S → ga_M → Option α) : Option α :=
  if na ≤ st.length then (if ((st.drop na).map fun v => v.category).sum ≤ 8 then g α mid (st.take na).reverse S σ (ga_ret K0 (hnd pc) NF pc L (st.drop na) k) else none) else none
/-- a call's receiver: of the class that the table names -/
def ga_rv (S : ga_S) (st : List Value) (na : Nat) (sw : List (Int32 × Nat)) (k : Option α) : Option α := match sw with
  | [] => k
  | q :: _ => (match na with
    | 0 => none
    | m + 1 => (match st.drop m with
      | .ref n :: _ => (match S[n]? with
        | some (.inl o) => if o.1 = q.2 then k else none
        | _ => none)
      | _ => none))
def ga_rI (K0 : ga_O → Option α) (st : List Value) (S : ga_S) (σ : ga_M) : Option α := match st with
  | [.int x] => K0 (.inl (some (.int x)), S, σ)
  | _ => none
def ga_rJ (K0 : ga_O → Option α) (st : List Value) (S : ga_S) (σ : ga_M) : Option α := match st with
  | [.long x] => K0 (.inl (some (.long x)), S, σ)
  | _ => none
def ga_rD (K0 : ga_O → Option α) (st : List Value) (S : ga_S) (σ : ga_M) : Option α := match st with
  | [.double x] => K0 (.inl (some (.double x)), S, σ)
  | _ => none
def ga_rA (K0 : ga_O → Option α) (st : List Value) (S : ga_S) (σ : ga_M) : Option α := match st with
  | [.ref x] => K0 (.inl (some (.ref x)), S, σ)
  | _ => none
def ga_rV (K0 : ga_O → Option α) (st : List Value) (S : ga_S) (σ : ga_M) : Option α := match st with
  | [] => K0 (.inl none, S, σ)
  | _ => none
/-- one step; k: what comes behind it -/
def ga_step (K0 : ga_O → Option α) (code : Nat → Option ga_E) (g : ga_G) (cost : Nat → Nat × Nat) (hnd : Nat → ga_H) (cls : Nat → List ga_F) (NF RC RS : Nat) (ini lf wr : Bool) (scr : Option (Nat × Nat × (Nat → Int32))) (cfg : ga_C) (k : ga_C → Option α) : Option α :=
  match cfg with
  | (pc, L, st, S, σ, kc, ks) => match code pc with
    | none => none
    | some (ins, _, r1, r2, sw) => match ins with
      | .iconst _ => ga_pI sw fun v => k (pc + 1, L, .int v :: st, S, σ, kc, ks)
      | .bipush _ => ga_pI sw fun v => k (pc + 2, L, .int v :: st, S, σ, kc, ks)
      | .sipush _ => ga_pI sw fun v => k (pc + 3, L, .int v :: st, S, σ, kc, ks)
      | .ldc _ => ga_ldc sw r1 fun v => k (pc + 2, L, v :: st, S, σ, kc, ks)
      | .ldc_w _ => ga_ldc sw r1 fun v => k (pc + 3, L, v :: st, S, σ, kc, ks)
      | .lconst _ => ga_pI sw fun v => k (pc + 1, L, .long v.toInt64 :: st, S, σ, kc, ks)
      | .ldc2_w _ => ga_pI sw fun v => k (pc + 3, L, .double (FP.i2d v) :: st, S, σ, kc, ks)
      | .dconst _ => if r1 = 0 then k (pc + 1, L, .double FP.dconst0 :: st, S, σ, kc, ks) else k (pc + 1, L, .double FP.dconst1 :: st, S, σ, kc, ks)
      | .iload_n _ => ga_iL L r1 fun x => k (pc + 1, L, .int x :: st, S, σ, kc, ks)
      | .iload _ => ga_iL L r1 fun x => k (pc + 2, L, .int x :: st, S, σ, kc, ks)
      | .lload_n _ => ga_jL L r1 fun x => k (pc + 1, L, .long x :: st, S, σ, kc, ks)
      | .lload _ => ga_jL L r1 fun x => k (pc + 2, L, .long x :: st, S, σ, kc, ks)
      | .dload_n _ => ga_dL L r1 fun x => k (pc + 1, L, .double x :: st, S, σ, kc, ks)
      | .dload _ => ga_dL L r1 fun x => k (pc + 2, L, .double x :: st, S, σ, kc, ks)
      | .aload_n _ => ga_aL L r1 fun x => k (pc + 1, L, .ref x :: st, S, σ, kc, ks)
      | .aload _ => ga_aL L r1 fun x => k (pc + 2, L, .ref x :: st, S, σ, kc, ks)
      | .istore_n _ => ga_i1 st fun x r => ga_oL (ga_s1 lf L r1 (.int x)) fun L => k (pc + 1, L, r, S, σ, kc, ks)
      | .istore _ => ga_i1 st fun x r => ga_oL (ga_s1 lf L r1 (.int x)) fun L => k (pc + 2, L, r, S, σ, kc, ks)
      | .astore_n _ => ga_a1 st fun x r => ga_oL (ga_s1 lf L r1 (.ref x)) fun L => k (pc + 1, L, r, S, σ, kc, ks)
      | .astore _ => ga_a1 st fun x r => ga_oL (ga_s1 lf L r1 (.ref x)) fun L => k (pc + 2, L, r, S, σ, kc, ks)
      | .lstore_n _ => ga_j1 st fun x r => ga_oL (ga_s2 lf L r1 (.long x)) fun L => k (pc + 1, L, r, S, σ, kc, ks)
      | .lstore _ => ga_j1 st fun x r => ga_oL (ga_s2 lf L r1 (.long x)) fun L => k (pc + 2, L, r, S, σ, kc, ks)
      | .dstore_n _ => ga_d1 st fun x r => ga_oL (ga_s2 lf L r1 (.double x)) fun L => k (pc + 1, L, r, S, σ, kc, ks)
      | .dstore _ => ga_d1 st fun x r => ga_oL (ga_s2 lf L r1 (.double x)) fun L => k (pc + 2, L, r, S, σ, kc, ks)
      | .iinc _ _ => ga_pI sw fun v => ga_iL L r1 fun x => ga_oL (ga_s1 lf L r1 (.int (x + v))) fun L => k (pc + 3, L, st, S, σ, kc, ks)
      | .iadd => ga_i2 st fun x y r => k (pc + 1, L, .int (x + y) :: r, S, σ, kc, ks)
      | .isub => ga_i2 st fun x y r => k (pc + 1, L, .int (x - y) :: r, S, σ, kc, ks)
      | .imul => ga_i2 st fun x y r => k (pc + 1, L, .int (x * y) :: r, S, σ, kc, ks)
      | .iand => ga_i2 st fun x y r => k (pc + 1, L, .int (x &&& y) :: r, S, σ, kc, ks)
      | .ior => ga_i2 st fun x y r => k (pc + 1, L, .int (x ||| y) :: r, S, σ, kc, ks)
      | .ixor => ga_i2 st fun x y r => k (pc + 1, L, .int (x ^^^ y) :: r, S, σ, kc, ks)
      | .ishl => ga_i2 st fun x y r => k (pc + 1, L, .int (x <<< (y &&& 31)) :: r, S, σ, kc, ks)
      | .ishr => ga_i2 st fun x y r => k (pc + 1, L, .int (x >>> (y &&& 31)) :: r, S, σ, kc, ks)
      | .iushr => ga_i2 st fun x y r => k (pc + 1, L, .int (x.toUInt32 >>> (y.toUInt32 &&& Int32.toUInt32 31)).toInt32 :: r, S, σ, kc, ks)
      | .idiv => ga_i2 st fun x y r => if y = 0 then none else k (pc + 1, L, .int (x / y) :: r, S, σ, kc, ks)
      | .irem => ga_i2 st fun x y r => if y = 0 then none else k (pc + 1, L, .int (x - x / y * y) :: r, S, σ, kc, ks)
      | .ladd => ga_j2 st fun x y r => k (pc + 1, L, .long (x + y) :: r, S, σ, kc, ks)
      | .lsub => ga_j2 st fun x y r => k (pc + 1, L, .long (x - y) :: r, S, σ, kc, ks)
      | .lmul => ga_j2 st fun x y r => k (pc + 1, L, .long (x * y) :: r, S, σ, kc, ks)
      | .lcmp => ga_j2 st fun x y r => k (pc + 1, L, .int (lg_cmp x y) :: r, S, σ, kc, ks)
      | .i2l => ga_i1 st fun x r => k (pc + 1, L, .long x.toInt64 :: r, S, σ, kc, ks)
      | .l2i => ga_j1 st fun x r => k (pc + 1, L, .int x.toInt32 :: r, S, σ, kc, ks)
      | .i2b => ga_i1 st fun x r => k (pc + 1, L, .int x.toInt8.toInt32 :: r, S, σ, kc, ks)
      | .i2c => ga_i1 st fun x r => k (pc + 1, L, .int (x.toUInt32 % 65536).toInt32 :: r, S, σ, kc, ks)
      | .i2d => ga_i1 st fun x r => k (pc + 1, L, .double (FP.i2d x) :: r, S, σ, kc, ks)
      | .ddiv => ga_d2 st fun x y r => if FP.ddiv x y &&& 0x7fffffffffffffff ≤ 0x7ff0000000000000 then k (pc + 1, L, .double (FP.ddiv x y) :: r, S, σ, kc, ks) else none
      | .dcmp op => ga_d2 st fun x y r => k (pc + 1, L, .int (Op.cmpValue (FP.dcmp x y) op) :: r, S, σ, kc, ks)
      | .dup => ga_u1 st fun v r => k (pc + 1, L, v :: v :: r, S, σ, kc, ks)
      | .pop => ga_u1 st fun _ r => k (pc + 1, L, r, S, σ, kc, ks)
      | .dup2 => ga_u1 st fun v r => ga_u1 r fun w r => k (pc + 1, L, v :: w :: v :: w :: r, S, σ, kc, ks)
      | .dup_x1 => ga_u1 st fun v r => ga_u1 r fun w r => k (pc + 1, L, v :: w :: v :: r, S, σ, kc, ks)
      | .ifCond .eq _ => ga_i1 st fun x r => if x = 0 then k (r1, L, r, S, σ, kc, ks) else k (pc + 3, L, r, S, σ, kc, ks)
      | .ifCond .ne _ => ga_i1 st fun x r => if x = 0 then k (pc + 3, L, r, S, σ, kc, ks) else k (r1, L, r, S, σ, kc, ks)
      | .ifCond .lt _ => ga_i1 st fun x r => if x < 0 then k (r1, L, r, S, σ, kc, ks) else k (pc + 3, L, r, S, σ, kc, ks)
      | .ifCond .ge _ => ga_i1 st fun x r => if 0 ≤ x then k (r1, L, r, S, σ, kc, ks) else k (pc + 3, L, r, S, σ, kc, ks)
      | .ifCond .gt _ => ga_i1 st fun x r => if 0 < x then k (r1, L, r, S, σ, kc, ks) else k (pc + 3, L, r, S, σ, kc, ks)
      | .ifCond .le _ => ga_i1 st fun x r => if x ≤ 0 then k (r1, L, r, S, σ, kc, ks) else k (pc + 3, L, r, S, σ, kc, ks)
      | .if_icmp .eq _ => ga_i2 st fun x y r => if x = y then k (r1, L, r, S, σ, kc, ks) else k (pc + 3, L, r, S, σ, kc, ks)
      | .if_icmp .ne _ => ga_i2 st fun x y r => if x = y then k (pc + 3, L, r, S, σ, kc, ks) else k (r1, L, r, S, σ, kc, ks)
      | .if_icmp .lt _ => ga_i2 st fun x y r => if x < y then k (r1, L, r, S, σ, kc, ks) else k (pc + 3, L, r, S, σ, kc, ks)
      | .if_icmp .ge _ => ga_i2 st fun x y r => if y ≤ x then k (r1, L, r, S, σ, kc, ks) else k (pc + 3, L, r, S, σ, kc, ks)
      | .if_icmp .gt _ => ga_i2 st fun x y r => if y < x then k (r1, L, r, S, σ, kc, ks) else k (pc + 3, L, r, S, σ, kc, ks)
      | .if_icmp .le _ => ga_i2 st fun x y r => if x ≤ y then k (r1, L, r, S, σ, kc, ks) else k (pc + 3, L, r, S, σ, kc, ks)
      | .goto _ => k (r1, L, st, S, σ, kc, ks)
      | .tableswitch _ _ _ _ => ga_i1 st fun x r => ga_sw (fun t => k (t, L, r, S, σ, kc, ks)) x r1 sw
      | .lookupswitch _ _ => ga_i1 st fun x r => ga_sw (fun t => k (t, L, r, S, σ, kc, ks)) x r1 sw
      | .getfield _ => ga_a1 st fun n r => ga_fld S σ n r1 r2 fun v => k (pc + 3, L, v :: r, S, σ, kc, ks)
      | .putfield _ => if wr = true then (ga_u1 st fun v r => ga_a1 r fun n r => ga_pfd (!sw.isEmpty) ini S σ n r1 r2 v fun S σ => k (pc + 3, L, r, S, σ, kc, ks)) else none
      | .iaload => ga_i1 st fun i r => ga_a1 r fun n r => ga_iald S σ scr n i fun x => k (pc + 1, L, .int x :: r, S, σ, kc, ks)
      | .baload => ga_i1 st fun i r => ga_a1 r fun n r => ga_arr S n 1 fun a => if i < 0 ∨ a ≤ i.toNatClampNeg then none else k (pc + 1, L, .int (σ n i.toNatClampNeg) :: r, S, σ, kc, ks)
      | .iastore => if wr = true then (ga_i2 st fun i x r => ga_a1 r fun n r => ga_arr S n 0 fun a => if i < 0 ∨ a ≤ i.toNatClampNeg then none else k (pc + 1, L, r, S, ga_up σ n i.toNatClampNeg x, kc, ks)) else none
      | .bastore => if wr = true then (ga_i2 st fun i x r => ga_a1 r fun n r => ga_arr S n 1 fun a => if i < 0 ∨ a ≤ i.toNatClampNeg then none else k (pc + 1, L, r, S, ga_up σ n i.toNatClampNeg x.toInt8.toInt32, kc, ks)) else none
      | .arraylength => ga_a1 st fun n r => ga_alen S scr n fun v => k (pc + 1, L, .int v :: r, S, σ, kc, ks)
      | .new _ => if 1000 ≤ r1 then (if kc + 1 ≤ RC ∧ ks + 6 ≤ RS ∧ st.length ≤ 4 then K0 (.inr (r1 - 1000), S, σ) else none)
          else if S.length < NF ∧ kc + 1 ≤ RC ∧ ks + r2 ≤ RS then k (pc + 3, L, .ref S.length :: st, S ++ [.inl (r1, cls r1)], ga_z σ S.length, kc + 1, ks + r2) else none
      | .newarray _ => ga_i1 st fun n r => if n < 0 then none else if S.length < NF ∧ kc + 1 ≤ RC ∧ ks + n.toNatClampNeg ≤ RS ∧ n.toNatClampNeg ≤ 60000 then k (pc + 2, L, .ref S.length :: r, S ++ [.inr (r1, n.toNatClampNeg)], ga_z σ S.length, kc + 1, ks + n.toNatClampNeg) else none
      | .invokevirtual _ => ga_rv S st r2 sw (if kc + (cost r1).1 ≤ RC ∧ ks + (cost r1).2 ≤ RS then ga_call K0 g hnd NF pc r1 r2 L st S σ fun pc L st S σ => k (pc, L, st, S, σ, kc + (cost r1).1, ks + (cost r1).2) else none)
      | .invokestatic _ => if kc + (cost r1).1 ≤ RC ∧ ks + (cost r1).2 ≤ RS then ga_call K0 g hnd NF pc r1 r2 L st S σ fun pc L st S σ => k (pc, L, st, S, σ, kc + (cost r1).1, ks + (cost r1).2) else none
      | .invokespecial _ => if r1 = 0 then (ga_a1 st fun _ r => if r.length ≤ 4 then k (pc + 3, L, r, S, σ, kc, ks) else none)
          else if kc + (cost r1).1 ≤ RC ∧ ks + (cost r1).2 ≤ RS then ga_call K0 g hnd NF pc r1 r2 L st S σ fun pc L st S σ => k (pc, L, st, S, σ, kc + (cost r1).1, ks + (cost r1).2) else none
      | .ireturn => ga_rI K0 st S σ
      | .lreturn => ga_rJ K0 st S σ
      | .dreturn => ga_rD K0 st S σ
      | .areturn => ga_rA K0 st S σ
      | .return_ => ga_rV K0 st S σ
      | _ => none
/-- steps up to a stop -/
def ga_ev (step : ga_C → (ga_C → Option α) → Option α) (sp : ga_C → Option (Option α)) : Nat → ga_C → Option α
  | 0, _ => none
  | n + 1, cfg => match sp cfg with
    | some r => r
    | none => step cfg (ga_ev step sp n)
end GA0
