section GB1
/-! the contracts of the methods, out of their runs -/
def gb_exn (k : Nat) : String := if k = 1 then "java/lang/IllegalStateException" else if k = 2 then "java/lang/IllegalArgumentException" else if k = 3 then "java/lang/IndexOutOfBoundsException" else "java/util/NoSuchElementException"
def gb_good : List Cond := lw_tbl.filter goodWord
theorem gb_w (i : Nat) {w : Cond} (h : lw_tbl[i]? = some w) (g : goodWord w = true) : w ∈ gb_good := List.mem_filter.mpr ⟨List.mem_of_getElem? h, g⟩
theorem gb_ww {w : Cond} (h : w ∈ gb_good) : goodWord w = true := (List.mem_filter.mp h).2
def gb_ws (y : MethodName) (cc : ByteArray) (maxL : Nat) (ret : Option FieldType) : List Cond := .code y cc maxL ret :: gb_good
def gb_rm (lev mc ms : Nat) : Room := { frames := 1 + lev, cells := mc, slots := ms, locals := 30 + 33 * lev }
/-- the cells, in a heap -/
def gb_P (D : va_G) (cA : Nat → ClassId) (ad : Nat → Nat) (A : Nat → Prop) (S : ga_S) (σ : ga_M) (H : Heap) : Prop := va_P D vwCl (ga_w cA ad S σ) H ∧ va_D A (ga_w cA ad S σ) ∧ (S.length < 84 → H.size = ad S.length)
/-- the constants' objects: their bytes -/
def gb_Str (ad : Nat → Nat) (A : Nat → Prop) (adV : Nat → Nat) (U : State) (H : Heap) : Prop := ∀ i : Nat, i < ga_txs.length → va_O "java/lang/String" (ad (1000 + i)) A U H ∧ va_OF "java/lang/String" "coder" "B" (.int 0) (ad (1000 + i)) A U H ∧ va_OF "java/lang/String" "value" "[B" (.ref (adV i)) (ad (1000 + i)) A U H ∧ va_T .byte (adV i) (ga_txs.getD i []).length (fun j => .int (Int32.ofNat ((ga_txs.getD i []).getD j 0))) A U H
theorem gb_Str.to {ad : Nat → Nat} {A : Nat → Prop} {adV : Nat → Nat} {u U : State} {H H1 : Heap} (hvm : u.vm.Alike U.vm) (h : gb_Str ad A adV u H) (hq : ∀ a : Nat, a < H.size → ¬ A a → H1[a]? = H[a]?) : gb_Str ad A adV U H1 := fun i hi =>
  ⟨((h i hi).1.kept hq).moved hvm, ((h i hi).2.1.kept hq).moved hvm, ((h i hi).2.2.1.kept hq).moved hvm, ((h i hi).2.2.2.kept hq).moved hvm⟩
theorem gb_oth_to {s U : State} (hW : s.WarmedH U.vm) (h : ∀ w ∈ gb_oth, va_Nw w s) : ∀ w ∈ gb_oth, va_Nw w U := by
  intro w hw
  have h1 := h w hw
  rcases List.mem_append.mp hw with h2 | h2
  · obtain ⟨q, -, rfl⟩ := List.mem_map.mp h2
    exact va_Nw.warmC hW h1
  · obtain ⟨q, -, rfl⟩ := List.mem_map.mp h2
    exact va_Nw.warmD hW h1
/-- the script, its length and numbers among the numbers that are known of the start -/
def gw_xs (adV : Nat → Nat) : Nat → Int32 := fun j => Int32.ofNat (adV (2000 + j))
def gw_Sc (ad : Nat → Nat) (A : Nat → Prop) (adV : Nat → Nat) (U : State) (H : Heap) : Prop := va_X (ad 999) (adV 1999) (gw_xs adV) U H ∧ ad 999 < H.size ∧ ¬ A (ad 999)
/-- what never changes -/
def gb_E (D : va_G) (cA : Nat → ClassId) (ad : Nat → Nat) (A : Nat → Prop) (adV : Nat → Nat) (U : State) (H : Heap) : Prop :=
  va_K D vwCl (ga_tys cA) U ∧ (∀ q ∈ gb_strs, vk_R q.1 q.2.1 q.2.2.1 (ad (1000 + q.2.2.2)) U) ∧ (∀ q ∈ gb_nest, va_Nw (.methodLinkNest q.1 q.2.1 q.2.2.1 q.2.2.2) U) ∧ (∀ w ∈ gb_oth, va_Nw w U) ∧ (∀ q ∈ gb_nc, va_Nc q.1 q.2 U) ∧
  vx_Zq Bundle.tN "UNASSIGNED_STACK" Bundle.steD A U H ∧ vx_Zq Bundle.tN "SUPPRESSED_SENTINEL" Bundle.listD A U H ∧ (va_Z "java/lang/String" "COMPACT_STRINGS" "Z" (.int 1) A U H ∧ va_Zq "jdk/internal/util/Preconditions" "SIOOBE_FORMATTER" "Ljava/util/function/BiFunction;" A U H ∧ gw_Sc ad A adV U H) ∧ gb_Str ad A adV U H ∧
  (∀ q : Nat, H.size ≤ q → A q) ∧ (∀ k, k + 1 < 84 → ad (k + 1) = ad k + 1)
variable {l : Launch} {D : va_G} {cA : Nat → ClassId} {ad : Nat → Nat} {A : Nat → Prop} {adV : Nat → Nat}
theorem gb_E.to {s U : State} {H H1 : Heap} (h : gb_E D cA ad A adV s H) (hW : s.WarmedH U.vm) (h1 : H.size ≤ H1.size) (hq : ∀ a : Nat, a < H.size → ¬ A a → H1[a]? = H[a]?) : gb_E D cA ad A adV U H1 := by
  obtain ⟨hK, hs, hn, hc, hnc, hU, hN, hZ, hS, hA, had⟩ := h
  have hal : s.vm.Alike U.vm := hW.alike
  exact ⟨va_K.moved hal hK, fun q hq => vk_R.warm hW (hs q hq), fun q hq => va_Nw.warmM hW (hn q hq), gb_oth_to hW hc, fun q hq => (hnc q hq).moved hal,
    vx_Zq.moved hal (hU.kept hq), vx_Zq.moved hal (hN.kept hq), ⟨va_Z.moved hal (hZ.1.kept hq), va_Zq.moved hal (va_Zq.kept hZ.2.1 hq), (hZ.2.2.1.kept (hq _ hZ.2.2.2.1 hZ.2.2.2.2)).moved hal, Nat.lt_of_lt_of_le hZ.2.2.2.1 h1, hZ.2.2.2.2⟩, hS.to hal hq, fun q h2 => hA q (Nat.le_trans h1 h2), had⟩
theorem gb_E.same {s U : State} {H : Heap} (h : gb_E D cA ad A adV s H) (hv : U.vm = s.vm) : gb_E D cA ad A adV U H :=
  h.to (by rw [hv]; exact State.WarmedH.refl s) (Nat.le_refl _) (fun _ _ _ => rfl)
def gb_Pc (D : va_G) (cA : Nat → ClassId) (ad : Nat → Nat) (A : Nat → Prop) (adV : Nat → Nat) (as : List Value) (S : ga_S) (σ : ga_M) : Array Value → State → Prop := fun v U => v = (as.map (ga_v ad)).toArray ∧ gb_P D cA ad A S σ U.heap ∧ gb_E D cA ad A adV U U.heap
def gb_Qc (D : va_G) (cA : Nat → ClassId) (ad : Nat → Nat) (A : Nat → Prop) (o : ga_O) : Array Value → State → Outcome → State → Prop := fun _ st oc t => (∃ v, o.1 = .inl v ∧ oc = .returned (v.map (ga_v ad)) ∧ gb_P D cA ad A o.2.1 o.2.2 t.heap) ∧ va_F A st t
def gb_XC (D : va_G) (cA : Nat → ClassId) (ad : Nat → Nat) (A : Nat → Prop) (o : ga_O) : String → State → State → Prop := fun E st t => (∃ En, o.1 = .inr En ∧ E = gb_exn En ∧ gb_P D cA ad A o.2.1 o.2.2 t.heap) ∧ va_F A st t
def gb_C (l : Launch) (D : va_G) (cA : Nat → ClassId) (ad : Nat → Nat) (A : Nat → Prop) (adV : Nat → Nat) (y : MethodName) (ws : List Cond) (lev mc ms : Nat) (as : List Value) (S : ga_S) (σ : ga_M) (o : ga_O) : Prop :=
  vx_Met l y ws (gb_rm lev mc ms) (gb_Pc D cA ad A adV as S σ) (gb_Qc D cA ad A o) (gb_XC D cA ad A o) mc ms A
theorem gb_blind {as : List Value} {S : ga_S} {σ : ga_M} : FrameBlind (gb_Pc D cA ad A adV as S σ) := fun a U g mk h =>
  ⟨h.1, h.2.1, (show gb_E D cA ad A adV (U.calling g mk a) U.heap from h.2.2.same rfl)⟩
/-- what a run of a call becomes -/
theorem gb_done {p : Program} {e : Env} {R : Room} {s : State} {m : MethodId} {args : Array Value} {below : List Frame} {meth : Method} {c : Code} {H : Heap} {locs : List Loc} {cells slots mc ms : Nat} {Q : State → Prop} {pc : Nat} {ls : Array Slot} {st r : List Value} {o : ga_O} {a : Array Value} {H0 : Heap}
    (hr : vx_Run p l e R s m args below meth c H locs cells slots mc ms (F0 m pc ls st) (r.map (ga_v ad)) (gb_Qc D cA ad A o a) (gb_XC D cA ad A o) A) (hS : va_S A H0 H locs)
    (kk : ∀ v, o.1 = .inl v → ∀ (H1 : Heap) (locs1 : List Loc), ga_I D cA A H0 ad 84 o.2.1 o.2.2 H1 locs1 → W p l e R s m args below meth c H1 locs1 (cells + mc) (slots + ms) Q (F0 m (pc + 3) ls ((v.toList ++ r).map (ga_v ad))))
    (kx : ∀ E, o.1 = .inr E → ∀ (H1 : Heap) (locs1 : List Loc) (q : Addr) (ce : Cell), ga_I D cA A H0 ad 84 o.2.1 o.2.2 H1 locs1 → H1[q]? = some ce → ce.vm = .none → s.vm.findClass (gb_exn E) = some ce.cls → vx_W p l e R s m args below meth c H1 locs1 (cells + mc) (slots + ms) Q (F0 m pc ls (r.map (ga_v ad))) q) :
    W p l e R s m args below meth c H locs cells slots Q (F0 m pc ls st) := by
  intro T hT X
  rcases hr T hT X with ⟨v, st₀, t, T', L, h0, X', hL, e1, e2, ⟨⟨v', hv1, hv2, hP⟩, hF⟩, st⟩ | ⟨q, st₀, t, T', L, E, ce, h0, X', hL, e1, e2, ⟨⟨En, hE1, hE2, hP⟩, hF⟩, hce, hcv, hcl, st⟩
  · cases hv2
    obtain ⟨k1, k2, k3⟩ := vx_keep h0 e1 hS (fun _ _ h => h) (fun _ h => h) hL hF
    rw [← e1] at hP
    obtain ⟨t2, a1, b1⟩ := kk v' hv1 T'.heap (locs ++ L) ⟨hP.1, hP.2.1, k3, hP.2.2⟩ T' rfl X'
    refine ⟨t2, st t2 ?_, b1⟩
    have e9 : (v'.map (ga_v ad)).toList ++ r.map (ga_v ad) = (v'.toList ++ r).map (ga_v ad) := by cases v' <;> rfl
    rw [e9]
    exact a1
  · subst hE2
    obtain ⟨k1, k2, k3⟩ := vx_keep h0 e1 hS (fun _ _ h => h) (fun _ h => h) hL hF
    rw [← e1] at hP
    obtain ⟨t2, a1, b1⟩ := kx En hE1 T'.heap (locs ++ L) q ce ⟨hP.1, hP.2.1, k3, hP.2.2⟩ (by rw [e1]; exact hce) hcv hcl T' rfl X'
    exact ⟨t2, st.trans a1, b1⟩
end GB1
