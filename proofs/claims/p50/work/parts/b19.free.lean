section GV9
/-! ===== runs whose costs are counted piece by piece: a base of costs, stops at any count, shapes looked at ===== -/
variable {p : Program} {l : Launch} {e : Env} {R : Room} {s : State} {m : MethodId} {args : Array Value} {below : List Frame} {meth : Method} {c : Code} {Q : State → Prop}
variable {cc : ByteArray} {own : String} {Ts : List Cond} {D : va_G} {cA : Nat → ClassId} {ad : Nat → Nat} {A : Nat → Prop} {code : Nat → Option ga_E} {g : ga_G} {cost : Nat → Nat × Nat} {hnd : Nat → ga_H} {cls : Nat → List ga_F} {NF RC RS : Nat} {ini lf wr : Bool} {scr : Option (Nat × Nat × (Nat → Int32))} {exn : Nat → String} {cb sb : Nat} {Φ : ga_O → Prop} {PS : ga_S → ga_M → Prop}
/-- a part of the costs, from a higher base -/
theorem gv_shift {a b RC2 RS2 : Nat} (h1 : a + RC2 ≤ RC) (h2 : b + RS2 ≤ RS) (ok : ga_Ok p l e R s m args below meth c Q cc own Ts D cA ad A code g cost hnd cls NF RC RS ini lf wr scr exn cb sb Φ PS) :
    ga_Ok p l e R s m args below meth c Q cc own Ts D cA ad A code g cost hnd cls NF RC2 RS2 ini lf wr scr exn (cb + a) (sb + b) Φ PS := by
  obtain ⟨hx, hb, hown, hts, hK, hA, had, ⟨hR1, hR2, hR3, hR4⟩, hini, hscr, hcode, hget, hput, hnew, hnar, hobj, hldc, hldc2, hPP, hcall, hthr, hexc, hcat, hret⟩ := ok
  refine ⟨hx, hb, hown, hts, hK, hA, had, ⟨by omega, by omega, hR3, hR4⟩, hini, hscr, hcode, hget, hput, hnew, hnar, hobj, hldc, hldc2, hPP, ?_, ?_, ?_, ?_, ?_⟩
  · intro pc ins len mid na sw hcd hi as r S σ o kc ks hp hal hcat2 hg hrv hkc hks H locs ls hI hls k1 k2
    have := hcall pc ins len mid na sw hcd hi as r S σ o (a + kc) (b + ks) hp hal hcat2 hg hrv (by omega) (by omega) H locs ls hI hls (fun v hv H1 locs1 hI1 => by
      have h3 := k1 v hv H1 locs1 hI1
      rw [show cb + (a + kc + (cost mid).1) = cb + a + (kc + (cost mid).1) by omega, show sb + (b + ks + (cost mid).2) = sb + b + (ks + (cost mid).2) by omega]
      exact h3) (fun E hE H1 locs1 q ce hI1 e1 e2 e3 => by
      have h3 := k2 E hE H1 locs1 q ce hI1 e1 e2 e3
      rw [show cb + (a + kc + (cost mid).1) = cb + a + (kc + (cost mid).1) by omega, show sb + (b + ks + (cost mid).2) = sb + b + (ks + (cost mid).2) by omega]
      exact h3)
    rw [show cb + a + kc = cb + (a + kc) by omega, show sb + b + ks = sb + (b + ks) by omega]
    exact this
  · intro pc idx len r1 r2 sw hcd h9 st S σ kc ks hst hkc hks hΦ H locs ls hI hls
    rw [show cb + a + kc = cb + (a + kc) by omega, show sb + b + ks = sb + (b + ks) by omega]
    exact hthr pc idx len r1 r2 sw hcd h9 st S σ (a + kc) (b + ks) hst (by omega) (by omega) hΦ H locs ls hI hls
  · intro E S σ hΦ pc st kc ks hno hkc hks H locs ls q ce hI hls e1 e2 e3
    rw [show cb + a + kc = cb + (a + kc) by omega, show sb + b + ks = sb + (b + ks) by omega]
    exact hexc E S σ hΦ pc st (a + kc) (b + ks) hno (by omega) (by omega) H locs ls q ce hI hls e1 e2 e3
  · intro pc E pre h suf hh st L S σ kc ks H locs ls q ce hS hf hI hL e1 e2 e3 k
    rw [show cb + a + kc = cb + (a + kc) by omega, show sb + b + ks = sb + (b + ks) by omega] at *
    exact hcat pc E pre h suf hh st L S σ (a + kc) (b + ks) H locs ls q ce hS hf hI hL e1 e2 e3 k
  · intro v S σ hΦ pc kc ks hkc hks hri H locs ls hI
    rw [show cb + a + kc = cb + (a + kc) by omega, show sb + b + ks = sb + (b + ks) by omega]
    exact hret v S σ hΦ pc (a + kc) (b + ks) (by omega) (by omega) hri H locs ls hI
/-- stops, by place, at any count -/
def gv_sp {α : Type} : List (Nat × (ga_Lo → ga_S → ga_M → Option α)) → ga_C → Option (Option α)
  | [], _ => none
  | q :: r, c => match Nat.beq c.1 q.1 with
    | true => (match c with
      | (_, L, [], S, σ, _, _) => some (q.2 L S σ)
      | _ => some none)
    | false => gv_sp r c
theorem gv_sp_s {α : Type} {r : α} : ∀ {l : List (Nat × (ga_Lo → ga_S → ga_M → Option α))} {c : ga_C}, gv_sp l c = some (some r) → ∃ q ∈ l, ∃ (L : ga_Lo) (S : ga_S) (σ : ga_M) (kc ks : Nat), c = (q.1, L, [], S, σ, kc, ks) ∧ q.2 L S σ = some r
  | [], c, h => by cases h
  | q :: l, c, h => by
    unfold gv_sp at h
    split at h
    · rename_i hb
      split at h
      · rename_i pc L S σ kc ks
        exact ⟨q, List.mem_cons_self, L, S, σ, kc, ks, by rw [← Nat.eq_of_beq_eq_true hb], Option.some.inj h⟩
      · cases h
    · obtain ⟨q1, h1, h2⟩ := gv_sp_s h
      exact ⟨q1, List.mem_cons_of_mem _ h1, h2⟩
/-- what a run from cfg, with the answer r, stands for: B cells, C slots are enough, from any base -/
def gv_T {α : Type} (own : String) (cc : ByteArray) (code : Nat → Option ga_E) (g : ga_G) (cost : Nat → Nat × Nat) (hnd : Nat → ga_H) (cls : Nat → List ga_F) (NF : Nat) (ini lf wr : Bool) (scr : Option (Nat × Nat × (Nat → Int32))) (PS : ga_S → ga_M → Prop) (K0 : ga_O → Option α) (B C : Nat) (cfg : ga_C) (r : α) : Prop :=
  ∀ (p : Program) (l : Launch) (e : Env) (R : Room) (s : State) (m : MethodId) (args : Array Value) (below : List Frame) (meth : Method) (c : Code) (Q : State → Prop) (Ts : List Cond) (D : va_G) (cA : Nat → ClassId) (ad : Nat → Nat) (A : Nat → Prop) (exn : Nat → String) (cb sb TC TS : Nat) (Φ : ga_O → Prop),
    (∀ a b RC RS, a + RC ≤ TC → b + RS ≤ TS → ga_Ok p l e R s m args below meth c Q cc own Ts D cA ad A code g cost hnd cls NF RC RS ini lf wr scr exn (cb + a) (sb + b) Φ PS) → (∀ o', K0 o' = some r → PS o'.2.1 o'.2.2 → Φ o') →
    ∀ a b, a + B ≤ TC → b + C ≤ TS → ga_W p l e R s m args below meth c Q D cA ad A NF B C lf (cb + a) (sb + b) PS cfg
variable {α : Type} {K0 : ga_O → Option α} {r : α}
theorem gv_ev {sp : ga_C → Option (Option α)} (ok : ga_Ok p l e R s m args below meth c Q cc own Ts D cA ad A code g cost hnd cls NF RC RS ini lf wr scr exn cb sb Φ PS) (hΦ : ∀ o', K0 o' = some r → PS o'.2.1 o'.2.2 → Φ o')
    (hsp : ∀ c', sp c' = some (some r) → ga_W p l e R s m args below meth c Q D cA ad A NF RC RS lf cb sb PS c') : ∀ (n : Nat) (cfg : ga_C), ga_ev (ga_step K0 code g cost hnd cls NF RC RS ini lf wr scr) sp n cfg = some r → ga_W p l e R s m args below meth c Q D cA ad A NF RC RS lf cb sb PS cfg
  | 0, _, h => (by cases h)
  | n + 1, cfg, h => by
    unfold ga_ev at h
    split at h
    · rename_i q hq
      exact hsp _ (by rw [hq, h])
    · exact ga_sound ok (fun c1 h1 => gv_ev ok hΦ hsp n c1 h1) h hΦ
theorem gv_T_mono {B C B2 C2 pc : Nat} {L : ga_Lo} {st : List Value} {S : ga_S} {σ : ga_M} (h1 : B ≤ B2) (h2 : C ≤ C2) (h : gv_T own cc code g cost hnd cls NF ini lf wr scr PS K0 B C (pc, L, st, S, σ, 0, 0) r) : gv_T own cc code g cost hnd cls NF ini lf wr scr PS K0 B2 C2 (pc, L, st, S, σ, 0, 0) r := by
  intro p l e R s m args below meth c Q Ts D cA ad A exn cb sb TC TS Φ ok hΦ a b ha hb hf hp _ _ H locs ls hI hL
  exact h p l e R s m args below meth c Q Ts D cA ad A exn cb sb TC TS Φ ok hΦ a b (by omega) (by omega) hf hp (Nat.zero_le _) (Nat.zero_le _) H locs ls hI hL
theorem gv_T_S {B C pc : Nat} {L : ga_Lo} {st : List Value} {S : ga_S} {σ : ga_M} {kc ks : Nat} (h : PS S σ → gv_T own cc code g cost hnd cls NF ini lf wr scr PS K0 B C (pc, L, st, S, σ, kc, ks) r) : gv_T own cc code g cost hnd cls NF ini lf wr scr PS K0 B C (pc, L, st, S, σ, kc, ks) r :=
  fun p l e R s m args below meth c Q Ts D cA ad A exn cb sb TC TS Φ ok hΦ a b ha hb hf hp => h hp p l e R s m args below meth c Q Ts D cA ad A exn cb sb TC TS Φ ok hΦ a b ha hb hf hp
/-- from a node to the next stops -/
theorem gv_T_go {sp : List (Nat × (ga_Lo → ga_S → ga_M → Option α))} {B1 C1 B C n pc : Nat} {L : ga_Lo} {st : List Value} {S : ga_S} {σ : ga_M} (hB : B1 ≤ B) (hC : C1 ≤ C)
    (hsp : ∀ q ∈ sp, ∀ (L : ga_Lo) (S : ga_S) (σ : ga_M), q.2 L S σ = some r → gv_T own cc code g cost hnd cls NF ini lf wr scr PS K0 (B - B1) (C - C1) (q.1, L, [], S, σ, 0, 0) r)
    (h : ga_step K0 code g cost hnd cls NF B1 C1 ini lf wr scr (pc, L, st, S, σ, 0, 0) (ga_ev (ga_step K0 code g cost hnd cls NF B1 C1 ini lf wr scr) (gv_sp sp) n) = some r) : gv_T own cc code g cost hnd cls NF ini lf wr scr PS K0 B C (pc, L, st, S, σ, 0, 0) r := by
  intro p l e R s m args below meth c Q Ts D cA ad A exn cb sb TC TS Φ ok hΦ a b ha hb hf hp _ _ H locs ls hI hL
  have ok1 := ok a b B1 C1 (by omega) (by omega)
  have hst : ∀ c', gv_sp sp c' = some (some r) → ga_W p l e R s m args below meth c Q D cA ad A NF B1 C1 lf (cb + a) (sb + b) PS c' := by
    intro c' hc
    obtain ⟨q, hq, L', S', σ', kc, ks, rfl, h2⟩ := gv_sp_s hc
    have h3 := hsp q hq L' S' σ' h2 p l e R s m args below meth c Q Ts D cA ad A exn cb sb TC TS Φ ok hΦ (a + B1) (b + C1) (by omega) (by omega)
    intro hf2 hp2 hk1 hk2 H2 locs2 ls2 hI2 hL2
    have hk1 : kc ≤ B1 := hk1
    have hk2 : ks ≤ C1 := hk2
    exact W.widen (by show cb + a + kc ≤ cb + (a + B1) + 0; omega) (by show sb + b + ks ≤ sb + (b + C1) + 0; omega) (h3 hf2 hp2 (Nat.zero_le _) (Nat.zero_le _) H2 locs2 ls2 hI2 hL2)
  exact ga_sound ok1 (fun c1 h1 => gv_ev ok1 hΦ hst n c1 h1) h hΦ hf hp (Nat.zero_le _) (Nat.zero_le _) H locs ls hI hL
/-- a whole method -/
theorem gv_T_T {B C pc : Nat} {L : ga_Lo} {st : List Value} {S : ga_S} {σ : ga_M} (h : gv_T own cc code g cost hnd cls NF ini lf wr scr PS K0 B C (pc, L, st, S, σ, 0, 0) r) : ga_T own cc code g cost hnd cls NF B C ini lf wr scr PS K0 (pc, L, st, S, σ, 0, 0) r := by
  intro p l e R s m args below meth c Q Ts D cA ad A exn cb sb Φ ok hΦ
  exact h p l e R s m args below meth c Q Ts D cA ad A exn cb sb B C Φ (fun a b RC RS h1 h2 => gv_shift h1 h2 ok) hΦ 0 0 (by omega) (by omega)
/-- a stop with its shape looked at -/
theorem gv_at {sp : List (Nat × (ga_Lo → ga_S → ga_M → Option α))} {P : Nat × (ga_Lo → ga_S → ga_M → Option α) → Prop} {x : Nat × (ga_Lo → ga_S → ga_M → Option α)} (h1 : P x) (h2 : ∀ q ∈ sp, P q) : ∀ q ∈ x :: sp, P q := List.forall_mem_cons.mpr ⟨h1, h2⟩
end GV9
