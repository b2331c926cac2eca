noncomputable section
section GX1
variable {p : Program} {l : Launch} {e : Env} {s : State} {m : MethodId} {below : List Frame} {meth : Method} {c : Code} {b L : Nat} {xs : Nat → Int32}
variable {D : va_G} {cA : Nat → ClassId} {ad adV : Nat → Nat}
theorem gw_lk1 {pc : Nat} {r : ga_E} : ga_lk [(pc, r)] pc = some r := by simp [ga_lk]
theorem gw_rkP {pc : Nat} {r : ga_E} (h : gw_code pc = some r) : gk_rk RL gb_flL gb_slL gb_nlL gb_llL gb_tlL gk_nwL gk_oiL cL_law (pc, r) = true := (gw_code_mem h).elim fun i hi => List.all_eq_true.mp (gw_rkA i) _ (gb_lk_mem hi)
theorem gw_rkS {pc : Nat} {r : ga_E} (h : gw_code pc = some r) : [(pc, r)].all (gk_rk RL gb_flL gb_slL gb_nlL gb_llL gb_tlL gk_nwL gk_oiL cL_law) = true := by rw [List.all_cons, gw_rkP h]; rfl
/-- where the law stands -/
theorem gw_ok (hl : l.stackTraces = false) (C0 : lw_At p s m meth c b L xs) (hE : gb_E D cA ad (fun q : Nat => s.heap.size ≤ q) adV s s.heap) (had : ad 999 = b) : ∀ (cb sb RC RS : Nat), cb + RC ≤ 601024 → sb + RS ≤ 7293034 → ga_Ok p l e room_1 s m #[Value.ref b] below meth c (lw_Z below #[Value.ref b] s) cL_law RL lw_tbl D cA ad (fun q : Nat => s.heap.size ≤ q) gw_code gaLaw gaCostK (fun _ => []) gaCls 83 RC RS false false true (some (999, L, xs)) gb_exn cb sb gw_Φ (fun _ _ => True) := by
  obtain ⟨hx, hb, hr, hml, hown, hts, hX, hbl, hlocks, hgv⟩ := C0
  intro cb sb RC RS h1 h2
  have hT : ∀ w ∈ gb_good, w ∈ lw_tbl := fun w h => (List.mem_filter.mp h).1
  have key := fun {pc : Nat} {r : ga_E} (h : gw_code pc = some r) => gk_rows (own := RL) (cc := cL_law) (s := s) (args := #[Value.ref b]) (Ts := lw_tbl) gb_oL gk_oL gk_wd (gw_rkS h) hT hts hE
  have c1 : ∀ pc ins len r1 r2 sw, gw_code pc = some (ins, len, r1, r2, sw) → decode cL_law pc = .ok (ins, len) ∧ ga_chk pc ins len r1 sw = true := fun pc ins len r1 r2 sw h => (key h).1 _ _ _ _ _ _ gw_lk1
  refine ⟨hx, hb, hown, hts, hE.1, hE.2.2.2.2.2.2.2.2.2.1, hE.2.2.2.2.2.2.2.2.2.2, ⟨h1, h2, by decide, by decide⟩, (fun h => by cases h), ?_, c1, fun pc idx len r1 r2 sw h => (key h).2.1 _ _ _ _ _ _ gw_lk1, fun pc idx len r1 r2 sw h => (key h).2.2.1 _ _ _ _ _ _ gw_lk1, fun pc idx len r1 r2 sw h => (key h).2.2.2.1 _ _ _ _ _ _ gw_lk1, fun pc at' len r1 r2 sw h => (key h).2.2.2.2.1 _ _ _ _ _ _ gw_lk1, fun pc idx len r2 sw h => (key h).2.2.2.2.2.1 _ _ _ _ _ gw_lk1, ⟨fun pc idx len r1 r2 h => h.elim (fun h => (key h).2.2.2.2.2.2.1.1 pc idx len r1 r2 (Or.inl gw_lk1)) (fun h => (key h).2.2.2.2.2.2.1.1 pc idx len r1 r2 (Or.inr gw_lk1)), fun pc idx len r1 r2 q r h => h.elim (fun h => (key h).2.2.2.2.2.2.1.2 pc idx len r1 r2 q r (Or.inl gw_lk1)) (fun h => (key h).2.2.2.2.2.2.1.2 pc idx len r1 r2 q r (Or.inr gw_lk1))⟩, fun pc idx len r1 r2 sw h => (key h).2.2.2.2.2.2.2 _ _ _ _ _ _ gw_lk1, ⟨Or.inl fun _ _ => trivial, fun _ _ _ _ _ => trivial, fun _ _ _ _ _ _ _ => trivial, ge_Lg⟩, ?_, ?_, ?_, gb_catOk, ?_⟩
  · intro q hq
    cases hq
    show va_X (ad 999) L xs s s.heap ∧ ad 999 < s.heap.size ∧ ¬ s.heap.size ≤ ad 999
    rw [had]
    exact ⟨hX, hbl, Nat.not_le.mpr hbl⟩
  · refine gb_callOkB (lev := 40) (by decide) (by decide) h1 h2 hx hb hml hown hT hts hE c1 ?_
    intro pc ins len mid na sw h hi
    obtain ⟨i, hi9⟩ := gw_code_mem h
    exact gk_hlk (gw_rows_ok hl) (gw_crA i) _ (gb_lk_mem hi9) hi
  · intro pc idx len r1 r2 sw h h9
    obtain ⟨i, hi9⟩ := gw_code_mem h
    have h1 : Nat.blt r1 1000 = true := List.all_eq_true.mp (gw_ntA i) _ (gb_lk_mem hi9)
    have h2 := Nat.le_of_ble_eq_true h1
    exact absurd h9 (by omega)
  · intro E S σ h
    obtain ⟨S1, σ1, h⟩ := h
    cases h
  · intro v S σ h pc kc ks hk1 hk2 hri H locs ls hI
    obtain ⟨S1, σ1, h⟩ := h
    cases h
    refine W.widen (k := 601024) (n := 7293034) (by omega) (by omega) ?_
    refine va_forget (fun q hq => hI.2.2.1.2.2 q hq) ?_
    refine W.base ?_
    exact lw_ret (Drawn.sameBut.refl s.drawn lw_cs) hx hb hr hlocks hri
/-- the law from its entry, out of what the printed function answers -/
theorem gw_start (hl : l.stackTraces = false) (C0 : lw_At p s m meth c b L xs) (hlaw : ∀ σ : ga_M, ∃ r : ga_M, f_L_law xs L 600 σ = some (1, r)) : W p l e room_1 s m #[Value.ref b] below meth c s.heap [] 0 0 (lw_Z below #[Value.ref b] s) (entryFrame m ([Value.ref b] : List Value).toArray 9) := by
  have hn : narrow_1.before #[Value.ref b] s = true := by
    have := C0.2.2.2.2.2.2.2.2.2
    rw [Cond.before_and, Bool.and_eq_true] at this
    exact this.2
  obtain ⟨D, cA, ad, adV, hE, had, had0⟩ := gw_E (b := b) hn C0.2.2.2.2.2.1
  obtain ⟨r, hr⟩ := hlaw (fun _ _ => 0)
  have hW := gw_law (Nat.le_refl _) (gw_ok (e := e) (below := below) hl C0 hE had) (fun _ _ => 0) r hr
  have hml : c.maxLocals = 9 := C0.2.2.2.1
  have hP : va_P D vwCl (ga_w cA ad [] (fun _ _ => 0)) s.heap := fun k q h => by cases h
  have hD : va_D (fun q : Nat => s.heap.size ≤ q) (ga_w cA ad [] (fun _ _ => 0)) := ⟨fun i j p q h => (by cases h), fun k q h => (by cases h)⟩
  have hL := gb_L0_L (ad := ad) (as := [Value.ref 999]) (n := 9) (Nat.le_of_ble_eq_true rfl)
  have e9 : ([Value.ref 999] : List Value).map (ga_v ad) = [Value.ref b] := by
    show [Value.ref (ad 999)] = [Value.ref b]
    rw [had]
  rw [e9] at hL
  rw [lg_entry_eq]
  exact hW (fun h => by cases h) trivial (Nat.zero_le _) (Nat.zero_le _) s.heap [] _ ⟨hP, hD, va_S.rf, fun _ => had0.symm⟩ (by rw [hml]; exact hL)
end GX1
end
