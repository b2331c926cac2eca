section GA5
variable {p : Program} {l : Launch} {e : Env} {R : Room} {s : State} {m : MethodId} {args : Array Value} {below : List Frame} {meth : Method} {c : Code} {Q : State → Prop}
variable {cc : ByteArray} {own : String} {Ts : List Cond} {D : va_G} {cA : Nat → ClassId} {ad : Nat → Nat} {A : Nat → Prop} {code : Nat → Option ga_E} {g : ga_G} {cost : Nat → Nat × Nat} {hnd : Nat → ga_H} {cls : Nat → List ga_F} {NF RC RS : Nat} {ini lf wr : Bool} {scr : Option (Nat × Nat × (Nat → Int32))} {exn : Nat → String} {cb sb : Nat} {Φ : ga_O → Prop} {PS : ga_S → ga_M → Prop}
theorem ga_if {α : Type} {c : Prop} [Decidable c] {a b : Option α} {o : α} (h : (if c then a else b) = some o) : (c ∧ a = some o) ∨ (¬ c ∧ b = some o) := by
  split at h
  · exact Or.inl ⟨‹_›, h⟩
  · exact Or.inr ⟨‹_›, h⟩
theorem ga_ldcSW {H : Heap} {locs : List Loc} {cells slots pc : Nat} {ls : Array Slot} {rest : List Value} (hexec : p.tables.exec = Jvm.exec) (hb : c.code = cc) {own tx : String} {index q : Nat} (hown : s.vm.findClass own = some m.cls) (hZ : vk_R own index tx q s) (hdg : decode cc pc = .ok (.ldc_w index, 3))
    (k : W p l e R s m args below meth c H locs cells slots Q (F0 m (pc + 3) ls (.ref q :: rest))) : W p l e R s m args below meth c H locs cells slots Q (F0 m pc ls rest) := by
  intro T hT X
  obtain ⟨t, a1, b1⟩ := k T hT X
  exact ⟨t, X.ldcStringW hexec hown (text := tx) (a := q) hZ.1 hZ.2 (g := F0 m pc ls rest) rfl (by rw [hb]; exact hdg) t a1, b1⟩
theorem ga_hd_s {q : Int32 × Nat} {r : List (Int32 × Nat)} {f : Int32 → Bool} (h : ga_hd (q :: r) f = true) : f q.1 = true := h
set_option maxHeartbeats 8000000 in
set_option maxRecDepth 20000 in
/-- A STEP OF THE SMALL MACHINE IS A STEP OF THE JVM -/
theorem ga_sound (ok : ga_Ok p l e R s m args below meth c Q cc own Ts D cA ad A code g cost hnd cls NF RC RS ini lf wr scr exn cb sb Φ PS) {α : Type} {K0 : ga_O → Option α} {k : ga_C → Option α} {o : α}
    (hk : ∀ cfg, k cfg = some o → ga_W p l e R s m args below meth c Q D cA ad A NF RC RS lf cb sb PS cfg) {cfg : ga_C}
    (h : ga_step K0 code g cost hnd cls NF RC RS ini lf wr scr cfg k = some o) (hPh : ∀ o', K0 o' = some o → PS o'.2.1 o'.2.2 → Φ o') : ga_W p l e R s m args below meth c Q D cA ad A NF RC RS lf cb sb PS cfg := by
  obtain ⟨hx, hb, hown, hts, hK, hA, had, ⟨hR1, hR2, hR3, hR4⟩, hini, hscr, hcode, hget, hput, hnew, hnar, hobj, hldc, hldc2, ⟨hPS, hPW, hPg, hgc⟩, hcall, hthr, hexc, hcat, hret⟩ := ok
  obtain ⟨pc, L, st, S, σ, kc, ks⟩ := cfg
  intro hf hp hkc hks H locs ls hI hL
  unfold ga_step at h
  dsimp only at h hI hL hf hp hkc hks ⊢
  cases hcd : code pc with
  | none => rw [hcd] at h; cases h
  | some en =>
    obtain ⟨ins, len, r1, r2, sw⟩ := en
    rw [hcd] at h
    dsimp only at h
    obtain ⟨hd, hch⟩ := hcode _ _ _ _ _ _ hcd
    have hs1 : ∀ {i : Nat} {v : Value} {L' : ga_Lo}, ga_s1 lf L i v = some L' → i < c.maxLocals := fun h => by rw [← hL.1]; exact (ga_s1_i hf h).1
    have hs2 : ∀ {i : Nat} {v : Value} {L' : ga_Lo}, ga_s2 lf L i v = some L' → i + 1 < c.maxLocals := fun h => by rw [← hL.1]; exact (ga_s2_i h).2.1
    have hg1 : ∀ {i : Nat} {v : Value} {L' : ga_Lo}, ga_s1 lf L i v = some L' → ¬ v.category = 2 → ga_lf lf L' := fun h hv => by rw [(ga_s1_i hf h).2.1]; exact ga_lf_set hf (fun w e => by cases e; exact hv)
    have hg2 : ∀ {i : Nat} {v : Value} {L' : ga_Lo}, ga_s2 lf L i v = some L' → ga_lf lf L' := fun h z => by rw [(ga_s2_i h).1] at z; cases z
    cases ins
    case iconst n =>
      obtain ⟨q, r, rfl, hh1⟩ := ga_pI_s h
      simp only [ga_chk, ga_hd, Bool.and_eq_true, beq_iff_eq, decide_eq_true_eq] at hch
      exact lv_iconst hx hb (hch.1 ▸ hd) hch.2 (hk _ hh1 hf hp hkc hks H locs ls hI hL)
    case bipush n =>
      obtain ⟨q, r, rfl, hh1⟩ := ga_pI_s h
      simp only [ga_chk, ga_hd, Bool.and_eq_true, beq_iff_eq, decide_eq_true_eq] at hch
      exact lv_bipush hx hb (hch.1 ▸ hd) hch.2 (hk _ hh1 hf hp hkc hks H locs ls hI hL)
    case sipush n =>
      obtain ⟨q, r, rfl, hh1⟩ := ga_pI_s h
      simp only [ga_chk, ga_hd, Bool.and_eq_true, beq_iff_eq, decide_eq_true_eq] at hch
      exact lv_sipush hx hb (hch.1 ▸ hd) hch.2 (hk _ hh1 hf hp hkc hks H locs ls hI hL)
    case ldc n =>
      simp only [ga_chk, beq_iff_eq] at hch
      rcases ga_ldc_s h with ⟨rfl, hh1⟩ | ⟨q, r, rfl, hh1⟩
      · obtain ⟨tx, htx⟩ := hldc.1 _ _ _ _ _ (Or.inl hcd)
        exact va_ldcS hx hb hown htx (hch ▸ hd) (hk _ hh1 hf hp hkc hks H locs ls hI hL)
      · exact lv_ldc hx hb hown (hldc.2 _ _ _ _ _ _ _ (Or.inl hcd)) (hch ▸ hd) (hk _ hh1 hf hp hkc hks H locs ls hI hL)
    case ldc_w n =>
      simp only [ga_chk, beq_iff_eq] at hch
      rcases ga_ldc_s h with ⟨rfl, hh1⟩ | ⟨q, r, rfl, hh1⟩
      · obtain ⟨tx, htx⟩ := hldc.1 _ _ _ _ _ (Or.inr hcd)
        exact ga_ldcSW hx hb hown htx (hch ▸ hd) (hk _ hh1 hf hp hkc hks H locs ls hI hL)
      · exact lv_ldcw hx hb hown (hldc.2 _ _ _ _ _ _ _ (Or.inr hcd)) (hch ▸ hd) (hk _ hh1 hf hp hkc hks H locs ls hI hL)
    case lconst n =>
      obtain ⟨q, r, rfl, hh1⟩ := ga_pI_s h
      simp only [ga_chk, ga_hd, Bool.and_eq_true, beq_iff_eq, decide_eq_true_eq] at hch
      exact lv_lconst hx hb (hch.1 ▸ hd) hch.2 (hk _ hh1 hf hp hkc hks H locs ls hI hL)
    case ldc2_w n =>
      obtain ⟨q, r, rfl, hh1⟩ := ga_pI_s h
      simp only [ga_chk, beq_iff_eq] at hch
      obtain ⟨q2, r2', e2, hc2⟩ := hldc2 _ _ _ _ _ _ hcd
      cases e2
      exact lv_ldc2d hx hb hown hc2 (hch ▸ hd) (hk _ hh1 hf hp hkc hks H locs ls hI hL)
    case dconst n =>
      simp only [ga_chk, Bool.and_eq_true, beq_iff_eq, decide_eq_true_eq] at hch
      rcases ga_if h with ⟨hr, hh1⟩ | ⟨hr, hh1⟩
      · rw [if_pos hr] at hch
        rw [hch.1, hch.2] at hd
        exact lv_dconst0 hx hb hd (hk _ hh1 hf hp hkc hks H locs ls hI hL)
      · rw [if_neg hr] at hch
        rw [hch.1, hch.2] at hd
        exact lv_dconst1 hx hb hd (hk _ hh1 hf hp hkc hks H locs ls hI hL)
    case iload_n n =>
      obtain ⟨x, hl, hh1⟩ := ga_iL_s h
      simp only [ga_chk, Bool.and_eq_true, beq_iff_eq] at hch
      exact lv_iload_n hx hb (hch.1 ▸ hd) hch.2 (hL.at hl) (hk _ hh1 hf hp hkc hks H locs ls hI hL)
    case iload n =>
      obtain ⟨x, hl, hh1⟩ := ga_iL_s h
      simp only [ga_chk, Bool.and_eq_true, beq_iff_eq] at hch
      obtain ⟨rfl, rfl⟩ := hch
      exact lv_iload hx hb hd (hL.at hl) (hk _ hh1 hf hp hkc hks H locs ls hI hL)
    case lload_n n =>
      obtain ⟨x, hl, hh1⟩ := ga_jL_s h
      simp only [ga_chk, Bool.and_eq_true, beq_iff_eq] at hch
      exact lv_lload_n hx hb (hch.1 ▸ hd) hch.2 (hL.at hl) (hk _ hh1 hf hp hkc hks H locs ls hI hL)
    case lload n =>
      obtain ⟨x, hl, hh1⟩ := ga_jL_s h
      simp only [ga_chk, Bool.and_eq_true, beq_iff_eq] at hch
      obtain ⟨rfl, rfl⟩ := hch
      exact lv_lload hx hb hd (hL.at hl) (hk _ hh1 hf hp hkc hks H locs ls hI hL)
    case dload_n n =>
      obtain ⟨x, hl, hh1⟩ := ga_dL_s h
      simp only [ga_chk, Bool.and_eq_true, beq_iff_eq] at hch
      exact lv_dload_n hx hb (hch.1 ▸ hd) hch.2 (hL.at hl) (hk _ hh1 hf hp hkc hks H locs ls hI hL)
    case dload n =>
      obtain ⟨x, hl, hh1⟩ := ga_dL_s h
      simp only [ga_chk, Bool.and_eq_true, beq_iff_eq] at hch
      obtain ⟨rfl, rfl⟩ := hch
      exact lv_dload hx hb hd (hL.at hl) (hk _ hh1 hf hp hkc hks H locs ls hI hL)
    case aload_n n =>
      obtain ⟨x, hl, hh1⟩ := ga_aL_s h
      simp only [ga_chk, Bool.and_eq_true, beq_iff_eq] at hch
      exact lv_aload_n hx hb (hch.1 ▸ hd) hch.2 (hL.at hl) (hk _ hh1 hf hp hkc hks H locs ls hI hL)
    case aload n =>
      obtain ⟨x, hl, hh1⟩ := ga_aL_s h
      simp only [ga_chk, Bool.and_eq_true, beq_iff_eq] at hch
      obtain ⟨rfl, rfl⟩ := hch
      exact lv_aload hx hb hd (hL.at hl) (hk _ hh1 hf hp hkc hks H locs ls hI hL)
    case istore_n n =>
      obtain ⟨x, r, rfl, hh1⟩ := ga_i1_s h
      obtain ⟨L', hL', hh2⟩ := ga_oL_s hh1
      simp only [ga_chk, Bool.and_eq_true, beq_iff_eq] at hch
      exact lv_istore_n hx hb (hch.1 ▸ hd) hch.2 hL.has (hs1 hL') rfl (fun ls' h' => hk _ hh2 (hg1 hL' (fun z => absurd z (by simp [Value.category]))) hp hkc hks H locs ls' hI (ga_st1 (v := .int x) hf hL hL' h'))
    case istore n =>
      obtain ⟨x, r, rfl, hh1⟩ := ga_i1_s h
      obtain ⟨L', hL', hh2⟩ := ga_oL_s hh1
      simp only [ga_chk, Bool.and_eq_true, beq_iff_eq] at hch
      obtain ⟨rfl, rfl⟩ := hch
      exact lv_istore hx hb hd hL.has (hs1 hL') rfl (fun ls' h' => hk _ hh2 (hg1 hL' (fun z => absurd z (by simp [Value.category]))) hp hkc hks H locs ls' hI (ga_st1 (v := .int x) hf hL hL' h'))
    case astore_n n =>
      obtain ⟨x, r, rfl, hh1⟩ := ga_a1_s h
      obtain ⟨L', hL', hh2⟩ := ga_oL_s hh1
      simp only [ga_chk, Bool.and_eq_true, beq_iff_eq] at hch
      exact lv_astore_n hx hb (hch.1 ▸ hd) hch.2 hL.has (hs1 hL') rfl (fun ls' h' => hk _ hh2 (hg1 hL' (fun z => absurd z (by simp [Value.category]))) hp hkc hks H locs ls' hI (ga_st1 (v := .ref x) hf hL hL' h'))
    case astore n =>
      obtain ⟨x, r, rfl, hh1⟩ := ga_a1_s h
      obtain ⟨L', hL', hh2⟩ := ga_oL_s hh1
      simp only [ga_chk, Bool.and_eq_true, beq_iff_eq] at hch
      obtain ⟨rfl, rfl⟩ := hch
      exact lv_astore hx hb hd hL.has (hs1 hL') rfl (fun ls' h' => hk _ hh2 (hg1 hL' (fun z => absurd z (by simp [Value.category]))) hp hkc hks H locs ls' hI (ga_st1 (v := .ref x) hf hL hL' h'))
    case lstore_n n =>
      obtain ⟨x, r, rfl, hh1⟩ := ga_j1_s h
      obtain ⟨L', hL', hh2⟩ := ga_oL_s hh1
      simp only [ga_chk, Bool.and_eq_true, beq_iff_eq] at hch
      exact lv_lstore_n hx hb (hch.1 ▸ hd) hch.2 hL.has (hs2 hL') rfl (fun ls' h' => hk _ hh2 (hg2 hL') hp hkc hks H locs ls' hI (ga_st2 (v := .long x) hL hL' h'))
    case lstore n =>
      obtain ⟨x, r, rfl, hh1⟩ := ga_j1_s h
      obtain ⟨L', hL', hh2⟩ := ga_oL_s hh1
      simp only [ga_chk, Bool.and_eq_true, beq_iff_eq] at hch
      obtain ⟨rfl, rfl⟩ := hch
      exact lv_lstore hx hb hd hL.has (hs2 hL') rfl (fun ls' h' => hk _ hh2 (hg2 hL') hp hkc hks H locs ls' hI (ga_st2 (v := .long x) hL hL' h'))
    case dstore_n n =>
      obtain ⟨x, r, rfl, hh1⟩ := ga_d1_s h
      obtain ⟨L', hL', hh2⟩ := ga_oL_s hh1
      simp only [ga_chk, Bool.and_eq_true, beq_iff_eq] at hch
      exact lv_dstore_n hx hb (hch.1 ▸ hd) hch.2 hL.has (hs2 hL') rfl (fun ls' h' => hk _ hh2 (hg2 hL') hp hkc hks H locs ls' hI (ga_st2 (v := .double x) hL hL' h'))
    case dstore n =>
      obtain ⟨x, r, rfl, hh1⟩ := ga_d1_s h
      obtain ⟨L', hL', hh2⟩ := ga_oL_s hh1
      simp only [ga_chk, Bool.and_eq_true, beq_iff_eq] at hch
      obtain ⟨rfl, rfl⟩ := hch
      exact lv_dstore hx hb hd hL.has (hs2 hL') rfl (fun ls' h' => hk _ hh2 (hg2 hL') hp hkc hks H locs ls' hI (ga_st2 (v := .double x) hL hL' h'))
    case iinc i n =>
      obtain ⟨q, r, rfl, hh1⟩ := ga_pI_s h
      obtain ⟨x, hl, hh2⟩ := ga_iL_s hh1
      obtain ⟨L', hL', hh3⟩ := ga_oL_s hh2
      simp only [ga_chk, ga_hd, Bool.and_eq_true, beq_iff_eq, decide_eq_true_eq] at hch
      obtain ⟨rfl, rfl, hv⟩ := hch
      obtain ⟨j, hj⟩ := List.getElem?_of_mem (ga_lp_mem (ad := ad) hl)
      exact lv_iinc (k := j) hx hb hd hL.has hj (by rw [hv]) (hs1 hL') rfl (fun ls' h' => hk _ hh3 (hg1 hL' (fun z => absurd z (by simp [Value.category]))) hp hkc hks H locs ls' hI (ga_st1 (v := .int (x + q.1)) hf hL hL' h'))
    case iadd =>
      obtain ⟨x, y, r, rfl, hh1⟩ := ga_i2_s h
      simp only [ga_chk, beq_iff_eq] at hch
      exact lv_iadd hx hb (hch ▸ hd) (hk _ hh1 hf hp hkc hks H locs ls hI hL)
    case isub =>
      obtain ⟨x, y, r, rfl, hh1⟩ := ga_i2_s h
      simp only [ga_chk, beq_iff_eq] at hch
      exact lv_isub hx hb (hch ▸ hd) (hk _ hh1 hf hp hkc hks H locs ls hI hL)
    case imul =>
      obtain ⟨x, y, r, rfl, hh1⟩ := ga_i2_s h
      simp only [ga_chk, beq_iff_eq] at hch
      exact lv_imul hx hb (hch ▸ hd) (hk _ hh1 hf hp hkc hks H locs ls hI hL)
    case iand =>
      obtain ⟨x, y, r, rfl, hh1⟩ := ga_i2_s h
      simp only [ga_chk, beq_iff_eq] at hch
      exact lv_iand hx hb (hch ▸ hd) (hk _ hh1 hf hp hkc hks H locs ls hI hL)
    case ior =>
      obtain ⟨x, y, r, rfl, hh1⟩ := ga_i2_s h
      simp only [ga_chk, beq_iff_eq] at hch
      exact lv_ior hx hb (hch ▸ hd) (hk _ hh1 hf hp hkc hks H locs ls hI hL)
    case ixor =>
      obtain ⟨x, y, r, rfl, hh1⟩ := ga_i2_s h
      simp only [ga_chk, beq_iff_eq] at hch
      exact lv_ixor hx hb (hch ▸ hd) (hk _ hh1 hf hp hkc hks H locs ls hI hL)
    case ishl =>
      obtain ⟨x, y, r, rfl, hh1⟩ := ga_i2_s h
      simp only [ga_chk, beq_iff_eq] at hch
      exact lv_ishl hx hb (hch ▸ hd) (hk _ hh1 hf hp hkc hks H locs ls hI hL)
    case ishr =>
      obtain ⟨x, y, r, rfl, hh1⟩ := ga_i2_s h
      simp only [ga_chk, beq_iff_eq] at hch
      exact lv_ishr hx hb (hch ▸ hd) (hk _ hh1 hf hp hkc hks H locs ls hI hL)
    case iushr =>
      obtain ⟨x, y, r, rfl, hh1⟩ := ga_i2_s h
      simp only [ga_chk, beq_iff_eq] at hch
      exact lv_iushr hx hb (hch ▸ hd) rfl (hk _ hh1 hf hp hkc hks H locs ls hI hL)
    case idiv =>
      obtain ⟨x, y, r, rfl, hh1⟩ := ga_i2_s h
      simp only [ga_chk, beq_iff_eq] at hch
      rcases ga_if hh1 with ⟨hr, hh2⟩ | ⟨hr, hh2⟩
      · cases hh2
      · exact lv_idiv hx hb (hch ▸ hd) hr (hk _ hh2 hf hp hkc hks H locs ls hI hL)
    case irem =>
      obtain ⟨x, y, r, rfl, hh1⟩ := ga_i2_s h
      simp only [ga_chk, beq_iff_eq] at hch
      rcases ga_if hh1 with ⟨hr, hh2⟩ | ⟨hr, hh2⟩
      · cases hh2
      · exact lv_irem hx hb (hch ▸ hd) hr (hk _ hh2 hf hp hkc hks H locs ls hI hL)
    case ladd =>
      obtain ⟨x, y, r, rfl, hh1⟩ := ga_j2_s h
      simp only [ga_chk, beq_iff_eq] at hch
      exact lv_ladd hx hb (hch ▸ hd) (hk _ hh1 hf hp hkc hks H locs ls hI hL)
    case lsub =>
      obtain ⟨x, y, r, rfl, hh1⟩ := ga_j2_s h
      simp only [ga_chk, beq_iff_eq] at hch
      exact lv_lsub hx hb (hch ▸ hd) (hk _ hh1 hf hp hkc hks H locs ls hI hL)
    case lmul =>
      obtain ⟨x, y, r, rfl, hh1⟩ := ga_j2_s h
      simp only [ga_chk, beq_iff_eq] at hch
      exact lv_lmul hx hb (hch ▸ hd) (hk _ hh1 hf hp hkc hks H locs ls hI hL)
    case lcmp =>
      obtain ⟨x, y, r, rfl, hh1⟩ := ga_j2_s h
      simp only [ga_chk, beq_iff_eq] at hch
      exact W.lcmp hx hb (hch ▸ hd) (hk _ hh1 hf hp hkc hks H locs ls hI hL)
    case i2l =>
      obtain ⟨x, r, rfl, hh1⟩ := ga_i1_s h
      simp only [ga_chk, beq_iff_eq] at hch
      exact lv_i2l hx hb (hch ▸ hd) rfl (hk _ hh1 hf hp hkc hks H locs ls hI hL)
    case l2i =>
      obtain ⟨x, r, rfl, hh1⟩ := ga_j1_s h
      simp only [ga_chk, beq_iff_eq] at hch
      exact lv_l2i hx hb (hch ▸ hd) rfl (hk _ hh1 hf hp hkc hks H locs ls hI hL)
    case i2b =>
      obtain ⟨x, r, rfl, hh1⟩ := ga_i1_s h
      simp only [ga_chk, beq_iff_eq] at hch
      exact lv_i2b hx hb (hch ▸ hd) rfl (hk _ hh1 hf hp hkc hks H locs ls hI hL)
    case i2c =>
      obtain ⟨x, r, rfl, hh1⟩ := ga_i1_s h
      simp only [ga_chk, beq_iff_eq] at hch
      exact lv_i2c hx hb (hch ▸ hd) rfl (hk _ hh1 hf hp hkc hks H locs ls hI hL)
    case i2d =>
      obtain ⟨x, r, rfl, hh1⟩ := ga_i1_s h
      simp only [ga_chk, beq_iff_eq] at hch
      exact lv_i2d hx hb (hch ▸ hd) (hk _ hh1 hf hp hkc hks H locs ls hI hL)
    case ddiv =>
      obtain ⟨x, y, r, rfl, hh1⟩ := ga_d2_s h
      simp only [ga_chk, beq_iff_eq] at hch
      rcases ga_if hh1 with ⟨hr, hh2⟩ | ⟨hr, hh2⟩
      · exact lv_ddiv hx hb (hch ▸ hd) hr (hk _ hh2 hf hp hkc hks H locs ls hI hL)
      · cases hh2
    case dcmp op =>
      obtain ⟨x, y, r, rfl, hh1⟩ := ga_d2_s h
      simp only [ga_chk, beq_iff_eq] at hch
      exact lv_dcmp hx hb (hch ▸ hd) (hk _ hh1 hf hp hkc hks H locs ls hI hL)
    case dup =>
      obtain ⟨v, r, rfl, hv, hh1⟩ := ga_u1_s h
      simp only [ga_chk, beq_iff_eq] at hch
      exact lv_dup hx hb (hch ▸ hd) ((ga_v_cat ad v).trans hv) (hk _ hh1 hf hp hkc hks H locs ls hI hL)
    case pop =>
      obtain ⟨v, r, rfl, hv, hh1⟩ := ga_u1_s h
      simp only [ga_chk, beq_iff_eq] at hch
      exact lv_pop hx hb (hch ▸ hd) ((ga_v_cat ad v).trans hv) (hk _ hh1 hf hp hkc hks H locs ls hI hL)
    case dup2 =>
      obtain ⟨v, r, rfl, hv, hh1⟩ := ga_u1_s h
      obtain ⟨w, r, rfl, hw, hh2⟩ := ga_u1_s hh1
      simp only [ga_chk, beq_iff_eq] at hch
      exact lv_dup2_11 hx hb (hch ▸ hd) ((ga_v_cat ad v).trans hv) ((ga_v_cat ad w).trans hw) (hk _ hh2 hf hp hkc hks H locs ls hI hL)
    case dup_x1 =>
      obtain ⟨v, r, rfl, hv, hh1⟩ := ga_u1_s h
      obtain ⟨w, r, rfl, hw, hh2⟩ := ga_u1_s hh1
      simp only [ga_chk, beq_iff_eq] at hch
      exact lv_dup_x1 hx hb (hch ▸ hd) ((ga_v_cat ad v).trans hv) ((ga_v_cat ad w).trans hw) (hk _ hh2 hf hp hkc hks H locs ls hI hL)
    case ifCond cnd off =>
      simp only [ga_chk, ga_tb, Bool.and_eq_true, beq_iff_eq, decide_eq_true_eq] at hch
      obtain ⟨rfl, ht⟩ := hch
      cases cnd
      case eq =>
        obtain ⟨x, r, rfl, hh1⟩ := ga_i1_s h
        rcases ga_if hh1 with ⟨hr, hh2⟩ | ⟨hr, hh2⟩
        · exact lv_if_eq hx hb hd ht (fun _ => hk _ hh2 hf hp hkc hks H locs ls hI hL) (fun z => absurd hr z)
        · exact lv_if_eq hx hb hd ht (fun z => absurd z hr) (fun _ => hk _ hh2 hf hp hkc hks H locs ls hI hL)
      case ne =>
        obtain ⟨x, r, rfl, hh3⟩ := ga_i1_s h
        rcases ga_if hh3 with ⟨hr, hh4⟩ | ⟨hr, hh4⟩
        · exact lv_if_ne hx hb hd ht (fun z => absurd hr z) (fun _ => hk _ hh4 hf hp hkc hks H locs ls hI hL)
        · exact lv_if_ne hx hb hd ht (fun _ => hk _ hh4 hf hp hkc hks H locs ls hI hL) (fun z => absurd z hr)
      case lt =>
        obtain ⟨x, r, rfl, hh5⟩ := ga_i1_s h
        rcases ga_if hh5 with ⟨hr, hh6⟩ | ⟨hr, hh6⟩
        · exact lv_if_lt hx hb hd ht (fun _ => hk _ hh6 hf hp hkc hks H locs ls hI hL) (fun z => absurd hr z)
        · exact lv_if_lt hx hb hd ht (fun z => absurd z hr) (fun _ => hk _ hh6 hf hp hkc hks H locs ls hI hL)
      case ge =>
        obtain ⟨x, r, rfl, hh7⟩ := ga_i1_s h
        rcases ga_if hh7 with ⟨hr, hh8⟩ | ⟨hr, hh8⟩
        · exact lv_if_ge hx hb hd ht (fun _ => hk _ hh8 hf hp hkc hks H locs ls hI hL) (fun z => absurd hr z)
        · exact lv_if_ge hx hb hd ht (fun z => absurd z hr) (fun _ => hk _ hh8 hf hp hkc hks H locs ls hI hL)
      case gt =>
        obtain ⟨x, r, rfl, hh9⟩ := ga_i1_s h
        rcases ga_if hh9 with ⟨hr, hh10⟩ | ⟨hr, hh10⟩
        · exact lv_if_gt hx hb hd ht (fun _ => hk _ hh10 hf hp hkc hks H locs ls hI hL) (fun z => absurd hr z)
        · exact lv_if_gt hx hb hd ht (fun z => absurd z hr) (fun _ => hk _ hh10 hf hp hkc hks H locs ls hI hL)
      case le =>
        obtain ⟨x, r, rfl, hh11⟩ := ga_i1_s h
        rcases ga_if hh11 with ⟨hr, hh12⟩ | ⟨hr, hh12⟩
        · exact lv_if_le hx hb hd ht (fun _ => hk _ hh12 hf hp hkc hks H locs ls hI hL) (fun z => absurd hr z)
        · exact lv_if_le hx hb hd ht (fun z => absurd z hr) (fun _ => hk _ hh12 hf hp hkc hks H locs ls hI hL)
    case if_icmp cnd off =>
      simp only [ga_chk, ga_tb, Bool.and_eq_true, beq_iff_eq, decide_eq_true_eq] at hch
      obtain ⟨rfl, ht⟩ := hch
      cases cnd
      case eq =>
        obtain ⟨x, y, r, rfl, hh1⟩ := ga_i2_s h
        rcases ga_if hh1 with ⟨hr, hh2⟩ | ⟨hr, hh2⟩
        · exact lv_icmp_eq hx hb hd ht (fun _ => hk _ hh2 hf hp hkc hks H locs ls hI hL) (fun z => absurd hr z)
        · exact lv_icmp_eq hx hb hd ht (fun z => absurd z hr) (fun _ => hk _ hh2 hf hp hkc hks H locs ls hI hL)
      case ne =>
        obtain ⟨x, y, r, rfl, hh3⟩ := ga_i2_s h
        rcases ga_if hh3 with ⟨hr, hh4⟩ | ⟨hr, hh4⟩
        · exact lv_icmp_ne hx hb hd ht (fun z => absurd hr z) (fun _ => hk _ hh4 hf hp hkc hks H locs ls hI hL)
        · exact lv_icmp_ne hx hb hd ht (fun _ => hk _ hh4 hf hp hkc hks H locs ls hI hL) (fun z => absurd z hr)
      case lt =>
        obtain ⟨x, y, r, rfl, hh5⟩ := ga_i2_s h
        rcases ga_if hh5 with ⟨hr, hh6⟩ | ⟨hr, hh6⟩
        · exact lv_icmp_lt hx hb hd ht (fun _ => hk _ hh6 hf hp hkc hks H locs ls hI hL) (fun z => absurd hr z)
        · exact lv_icmp_lt hx hb hd ht (fun z => absurd z hr) (fun _ => hk _ hh6 hf hp hkc hks H locs ls hI hL)
      case ge =>
        obtain ⟨x, y, r, rfl, hh7⟩ := ga_i2_s h
        rcases ga_if hh7 with ⟨hr, hh8⟩ | ⟨hr, hh8⟩
        · exact lv_icmp_ge hx hb hd ht (fun _ => hk _ hh8 hf hp hkc hks H locs ls hI hL) (fun z => absurd hr z)
        · exact lv_icmp_ge hx hb hd ht (fun z => absurd z hr) (fun _ => hk _ hh8 hf hp hkc hks H locs ls hI hL)
      case gt =>
        obtain ⟨x, y, r, rfl, hh9⟩ := ga_i2_s h
        rcases ga_if hh9 with ⟨hr, hh10⟩ | ⟨hr, hh10⟩
        · exact lv_icmp_gt hx hb hd ht (fun _ => hk _ hh10 hf hp hkc hks H locs ls hI hL) (fun z => absurd hr z)
        · exact lv_icmp_gt hx hb hd ht (fun z => absurd z hr) (fun _ => hk _ hh10 hf hp hkc hks H locs ls hI hL)
      case le =>
        obtain ⟨x, y, r, rfl, hh11⟩ := ga_i2_s h
        rcases ga_if hh11 with ⟨hr, hh12⟩ | ⟨hr, hh12⟩
        · exact lv_icmp_le hx hb hd ht (fun _ => hk _ hh12 hf hp hkc hks H locs ls hI hL) (fun z => absurd hr z)
        · exact lv_icmp_le hx hb hd ht (fun z => absurd z hr) (fun _ => hk _ hh12 hf hp hkc hks H locs ls hI hL)
    case goto off =>
      simp only [ga_chk, ga_tb, Bool.and_eq_true, beq_iff_eq, decide_eq_true_eq] at hch
      obtain ⟨rfl, ht⟩ := hch
      exact lv_goto hx hb hd ht (hk _ h hf hp hkc hks H locs ls hI hL)
    case tableswitch d lo hi offs =>
      obtain ⟨x, r, rfl, hh1⟩ := ga_i1_s h
      simp only [ga_chk, ga_tb, Bool.and_eq_true, beq_iff_eq, decide_eq_true_eq, List.all_eq_true, List.mem_range] at hch
      obtain ⟨ht, hhi, hlen, hall⟩ := hch
      have hrow : ∀ (i : Nat) (q : Int32 × Nat), sw[i]? = some q → ∃ o', offs[i]? = some o' ∧ q.1.toInt = lo + (i : Int) ∧ (pc : Int) + o' = (q.2 : Int) := fun i q hq => by
        have hi9 := (List.getElem?_eq_some_iff.mp hq).1
        have := hall i (by omega)
        rw [hq] at this
        split at this
        · rename_i q1 o1 e1 e2
          cases e1
          simp only [Bool.and_eq_true, decide_eq_true_eq] at this
          exact ⟨_, e2, this.1, this.2⟩
        · cases this
      rcases ga_sw_s hh1 with ⟨i, q, hq, hxq, -, hh2⟩ | ⟨hno, hh2⟩
      · obtain ⟨o', h1, h2, h3⟩ := hrow i q hq
        have hi9 := (List.getElem?_eq_some_iff.mp hq).1
        have e9 : x.toInt = lo + (i : Int) := by rw [hxq]; exact h2
        exact lv_tableIn hx hb hd (by omega) (by omega) (by rw [show (x.toInt - lo).toNat = i by omega]; exact h1) h3 (hk _ hh2 hf hp hkc hks H locs ls hI hL)
      · refine lv_tableOut hx hb hd ?_ ht (hk _ hh2 hf hp hkc hks H locs ls hI hL)
        by_cases hlt : x.toInt < lo
        · exact Or.inl hlt
        · by_cases hgt : hi < x.toInt
          · exact Or.inr hgt
          · exfalso
            have hl9 : (x.toInt - lo).toNat < sw.length := by omega
            have hq := List.getElem?_eq_getElem hl9
            obtain ⟨o', h1, h2, h3⟩ := hrow _ _ hq
            refine hno _ (List.mem_of_getElem? hq) (Int32.toInt_inj.mp ?_)
            rw [h2]
            omega
    case lookupswitch d ps =>
      obtain ⟨x, r, rfl, hh1⟩ := ga_i1_s h
      simp only [ga_chk, ga_tb, Bool.and_eq_true, beq_iff_eq, decide_eq_true_eq] at hch
      obtain ⟨ht, hlen, hsort, hall⟩ := hch
      have key : ∀ (sw : List (Int32 × Nat)) (pl : List (Int × Int)), sw.length = pl.length → ((sw.zip pl).all fun q => decide (q.1.1.toInt = q.2.1) && decide ((pc : Int) + q.2.2 = (q.1.2 : Int))) = true → ga_sw (fun t => k (t, L, r, S, σ, kc, ks)) x r1 sw = some o → ∃ (off : Int) (t : Nat), Op.lookupswitch.offset pl d x.toInt = off ∧ (pc : Int) + off = (t : Int) ∧ k (t, L, r, S, σ, kc, ks) = some o := by
        intro sw
        induction sw with
        | nil =>
          intro pl h1 h2 h3
          cases pl with
          | nil => exact ⟨d, r1, rfl, ht, h3⟩
          | cons a b => cases h1
        | cons q sw ih =>
          intro pl h1 h2 h3
          cases pl with
          | nil => cases h1
          | cons a b =>
            simp only [List.zip_cons_cons, List.all_cons, Bool.and_eq_true, decide_eq_true_eq] at h2
            unfold ga_sw at h3
            rcases ga_if h3 with ⟨hr, h3⟩ | ⟨hr, h3⟩
            · refine ⟨a.2, q.2, ?_, h2.1.2, h3⟩
              rw [Op.lookupswitch.offset_cons, if_pos]
              rw [hr]; exact h2.1.1.symm
            · obtain ⟨off, t, e1, e2, e3⟩ := ih b (by simpa using h1) (by simpa [List.all_eq_true] using h2.2) h3
              exact ⟨off, t, by rw [lv_osw hr h2.1.1]; exact e1, e2, e3⟩
      obtain ⟨off, t, e1, e2, e3⟩ := key sw ps.toList (by simpa using hlen) hall hh1
      exact lv_lookup hx hb hd hsort e1 e2 (hk _ e3 hf hp hkc hks H locs ls hI hL)
    case getfield idx =>
      obtain ⟨n, r, rfl, hh1⟩ := ga_a1_s h
      simp only [ga_chk, beq_iff_eq] at hch
      obtain ⟨fs, hS, hh2 | hh2⟩ := ga_fld_s hh1
      · exact ga_get (v := .int (σ n r2)) hx hb hts hown hK hI (hget _ _ _ _ _ _ hcd) hS hh2.1 rfl (hch ▸ hd) (hk _ hh2.2 hf hp hkc hks H locs ls hI hL)
      · obtain ⟨j, h1, hh3⟩ := hh2
        exact ga_get (v := .ref (ad j)) hx hb hts hown hK hI (hget _ _ _ _ _ _ hcd) hS h1 rfl (hch ▸ hd) (hk _ hh3 hf hp hkc hks H locs ls hI hL)
    case putfield idx =>
      obtain ⟨hwr, h⟩ : wr = true ∧ _ = some o := (ga_if h).elim (fun z => z) (fun z => nomatch z.2)
      obtain ⟨v, r, rfl, hv, hh1⟩ := ga_u1_s h
      obtain ⟨n, r, rfl, hh2⟩ := ga_a1_s hh1
      simp only [ga_chk, beq_iff_eq] at hch
      obtain ⟨hF, hfl⟩ := hput _ _ _ _ _ _ hcd
      obtain ⟨fs, hS, hh3 | hh3⟩ := ga_pfd_s hh2
      · obtain ⟨x, rfl, h1, h2, hh4⟩ := hh3
        exact ga_putI hx hb hts hown hK hI hF (fun q hq => by rw [hfl q hq]; exact h2) hS h1 (hch ▸ hd) (fun H1 locs1 hI1 => hk _ hh4 hf (hPW hwr _ _ _ hp) hkc hks H1 locs1 ls hI1 hL)
      · obtain ⟨j, rfl, h1, h2, h3, h4, hh5⟩ := hh3
        have hp2 : PS (S.set n (.inl (r1, fs.set r2 (some (some j))))) σ := hPS.elim (fun z => z _ _) (fun z => by rw [z.2] at h3; cases h3)
        exact ga_putR hx hb hts hown hK hI hF (fun q hq => by rw [hfl q hq]; exact h2) (hini h3) hS h1 (hch ▸ hd) (fun H1 locs1 hI1 => hk _ hh5 hf hp2 hkc hks H1 locs1 ls hI1 hL)
    case iaload =>
      obtain ⟨i, r, rfl, hh1⟩ := ga_i1_s h
      obtain ⟨n, r, rfl, hh2⟩ := ga_a1_s hh1
      simp only [ga_chk, beq_iff_eq] at hch
      rcases ga_iald_s hh2 with ⟨len2, hS, hin, hh3⟩ | ⟨q, hq, rfl, hin, hh3⟩
      · exact va_iald hx hb hK hI.1 n 0 (by rw [ga_w_at hS]; rfl) rfl hin (hch ▸ hd) (hk _ hh3 hf hp hkc hks H locs ls hI hL)
      · obtain ⟨h1, h2, h3⟩ := hscr q hq
        exact va_sld hx hb h1 h2 h3 hI.2.2.1 hin (hch ▸ hd) (hk _ hh3 hf hp hkc hks H locs ls hI hL)
    case baload =>
      obtain ⟨i, r, rfl, hh1⟩ := ga_i1_s h
      obtain ⟨n, r, rfl, hh2⟩ := ga_a1_s hh1
      obtain ⟨len2, hS, hh3⟩ := ga_arr_s hh2
      simp only [ga_chk, beq_iff_eq] at hch
      rcases ga_if hh3 with ⟨hr, hh4⟩ | ⟨hr, hh4⟩
      · cases hh4
      · exact va_bald hx hb hK hI.1 n 1 (by rw [ga_w_at hS]; rfl) rfl hr (hch ▸ hd) (hk _ hh4 hf hp hkc hks H locs ls hI hL)
    case iastore =>
      obtain ⟨hwr, h⟩ : wr = true ∧ _ = some o := (ga_if h).elim (fun z => z) (fun z => nomatch z.2)
      obtain ⟨i, x, r, rfl, hh1⟩ := ga_i2_s h
      obtain ⟨n, r, rfl, hh2⟩ := ga_a1_s hh1
      obtain ⟨len2, hS, hh3⟩ := ga_arr_s hh2
      simp only [ga_chk, beq_iff_eq] at hch
      rcases ga_if hh3 with ⟨hr, hh4⟩ | ⟨hr, hh4⟩
      · cases hh4
      · exact ga_iast hx hb hK hI hS hr (hch ▸ hd) (fun H1 locs1 hI1 => hk _ hh4 hf (hPW hwr _ _ _ hp) hkc hks H1 locs1 ls hI1 hL)
    case bastore =>
      obtain ⟨hwr, h⟩ : wr = true ∧ _ = some o := (ga_if h).elim (fun z => z) (fun z => nomatch z.2)
      obtain ⟨i, x, r, rfl, hh1⟩ := ga_i2_s h
      obtain ⟨n, r, rfl, hh2⟩ := ga_a1_s hh1
      obtain ⟨len2, hS, hh3⟩ := ga_arr_s hh2
      simp only [ga_chk, beq_iff_eq] at hch
      rcases ga_if hh3 with ⟨hr, hh4⟩ | ⟨hr, hh4⟩
      · cases hh4
      · exact ga_bast hx hb hK hI hS hr (hch ▸ hd) (fun H1 locs1 hI1 => hk _ hh4 hf (hPW hwr _ _ _ hp) hkc hks H1 locs1 ls hI1 hL)
    case arraylength =>
      obtain ⟨n, r, rfl, hh1⟩ := ga_a1_s h
      simp only [ga_chk, beq_iff_eq] at hch
      rcases ga_alen_s hh1 with ⟨kd, len2, hS, hkd, hh2⟩ | ⟨q, hq, rfl, hh2⟩
      · have hS2 := ga_w_at (cA := cA) (ad := ad) (σ := σ) hS
        rcases (show kd = 0 ∨ kd = 1 by omega) with rfl | rfl
        · exact va_alen hx hb hK hI.1 n 0 hS2 rfl rfl (hch ▸ hd) (hk _ hh2 hf hp hkc hks H locs ls hI hL)
        · exact va_alen hx hb hK hI.1 n 1 hS2 rfl rfl (hch ▸ hd) (hk _ hh2 hf hp hkc hks H locs ls hI hL)
      · obtain ⟨h1, h2, h3⟩ := hscr q hq
        exact va_slen hx hb h1 h2 h3 hI.2.2.1 (hch ▸ hd) (hk _ hh2 hf hp hkc hks H locs ls hI hL)
    case new idx =>
      simp only [ga_chk, beq_iff_eq] at hch
      rcases ga_if h with ⟨hr, hh1⟩ | ⟨hr, hh1⟩
      · rcases ga_if hh1 with ⟨hr2, hh2⟩ | ⟨hr2, hh2⟩
        · exact hthr _ _ _ _ _ _ hcd hr st S σ kc ks hr2.2.2 hr2.1 hr2.2.1 (hPh _ hh2 hp) H locs ls hI hL.2.1
        · cases hh2
      · rcases ga_if hh1 with ⟨hr2, hh3⟩ | ⟨hr2, hh3⟩
        · obtain ⟨C, T, ty, hc, hin, hty, h1, h2, h3, hdf⟩ := hnew _ _ _ _ _ _ hcd (by omega)
          refine ga_new hx hb hts hown hK had hA hI hc hin hty h1 h2 h3 ?_ hr2.1 (by omega) (by omega) (hch ▸ hd) (fun H1 hI1 => ?_) (fs := cls r1)
          · intro j hj
            rcases hdf j hj with ⟨h8, h9⟩ | ⟨h8, h9⟩
            · rw [h9]
              simp [vp_V, List.getD, List.getElem?_mapIdx, h8, ga_fv, ga_z_self]
            · rw [h9]
              simp [vp_V, List.getD, List.getElem?_mapIdx, h8, ga_fv]
          · have hp2 : PS (S ++ [.inl (r1, cls r1)]) (ga_z σ S.length) := hPS.elim (fun z => z _ _) (fun z => z.1.elim (fun z => absurd hr2.1 (z _ _ hp)) (fun z => absurd (z.1 _ _ _ _ _ _ hcd) hr))
            have := hk _ hh3 hf hp2 hr2.2.1 hr2.2.2 H1 locs ls hI1 hL
            rw [Nat.add_assoc, Nat.add_assoc]
            exact this
        · cases hh3
    case newarray at' =>
      obtain ⟨n, r, rfl, hh1⟩ := ga_i1_s h
      simp only [ga_chk, beq_iff_eq] at hch
      obtain ⟨h1, ty, h2, h3, h4, h5, h6⟩ := hnar _ _ _ _ _ _ hcd
      rcases ga_if hh1 with ⟨hr, hh2⟩ | ⟨hr, hh2⟩
      · cases hh2
      · rcases ga_if hh2 with ⟨hr2, hh3⟩ | ⟨hr2, hh3⟩
        · refine ga_newa hx hb h1 h2 h3 h4 h5 h6 hK had hA hI hr hr2.1 hr2.2.2.2 (by omega) (by omega) (hch ▸ hd) (fun H1 hI1 => ?_)
          have hp2 : PS (S ++ [.inr (r1, n.toNatClampNeg)]) (ga_z σ S.length) := hPS.elim (fun z => z _ _) (fun z => z.1.elim (fun z => absurd hr2.1 (z _ _ hp)) (fun z => absurd hcd (z.2 _ _ _ _ _ _)))
          have := hk _ hh3 hf hp2 hr2.2.1 hr2.2.2.1 H1 locs ls hI1 hL
          rw [Nat.add_assoc, Nat.add_assoc]
          exact this
        · cases hh3
    case invokevirtual idx =>
      obtain ⟨h, hrv⟩ := ga_rv_s h
      rcases ga_if h with ⟨hr, hh1⟩ | ⟨hr, hh1⟩
      · obtain ⟨as, r, hst, hna, hrl, hh2 | hh2⟩ := ga_call_s hgc hh1
        · have hrv2 : ∀ i q r', (Instr.invokevirtual idx = .invokevirtual i) → sw = q :: r' → ∃ n fs as', as = .ref n :: as' ∧ S[n]? = some (.inl (q.2, fs)) := fun _ q r' _ e => hrv q r' as r e hst hna
          subst hst
          obtain ⟨v, S1, σ1, hg, hh3⟩ := hh2
          exact hcall _ _ _ _ _ _ hcd (Or.inl ⟨_, rfl⟩) as r S σ _ kc ks hp hna hrl hg hrv2 hr.1 hr.2 H locs ls hI hL.2.1 (fun v' hv' H1 locs1 hI1 => by cases hv'; exact hk _ hh3 hf (hPg _ _ _ _ _ hp hg) hr.1 hr.2 H1 locs1 ls hI1 hL) (fun E hE => by cases hE)
        · have hrv2 : ∀ i q r', (Instr.invokevirtual idx = .invokevirtual i) → sw = q :: r' → ∃ n fs as', as = .ref n :: as' ∧ S[n]? = some (.inl (q.2, fs)) := fun _ q r' _ e => hrv q r' as r e hst hna
          subst hst
          obtain ⟨E, S1, σ1, hg, hh4⟩ := hh2
          refine hcall _ _ _ _ _ _ hcd (Or.inl ⟨_, rfl⟩) as r S σ _ kc ks hp hna hrl hg hrv2 hr.1 hr.2 H locs ls hI hL.2.1 (fun v' hv' => by cases hv') (fun E' hE H1 locs1 q ce hI1 h1 h2 h3 => ?_)
          cases hE
          rcases hh4 with ⟨hn, hh5⟩ | ⟨pre, q2, suf, hn, hNF, hh5⟩
          · exact hexc _ _ _ (hPh _ hh5 (hPg _ _ _ _ _ hp hg)) _ _ _ _ hn hr.1 hr.2 H1 locs1 ls q ce hI1 hL.2.1 h1 h2 h3
          · exact hcat _ _ _ _ _ hn _ L S1 σ1 _ _ H1 locs1 ls q ce hNF hf hI1 hL h1 h2 h3 (fun ls' hL' => hk _ hh5 (ga_lf_set hf (fun w e => by cases e)) (hPg _ _ _ _ _ hp hg) hr.1 hr.2 H1 locs1 ls' hI1 hL')
      · cases hh1
    case invokestatic idx =>
      rcases ga_if h with ⟨hr, hh1⟩ | ⟨hr, hh1⟩
      · obtain ⟨as, r, rfl, hna, hrl, hh2 | hh2⟩ := ga_call_s hgc hh1
        · obtain ⟨v, S1, σ1, hg, hh3⟩ := hh2
          exact hcall _ _ _ _ _ _ hcd (Or.inr (Or.inl ⟨_, rfl⟩)) as r S σ _ kc ks hp hna hrl hg (fun _ _ _ e => nomatch e) hr.1 hr.2 H locs ls hI hL.2.1 (fun v' hv' H1 locs1 hI1 => by cases hv'; exact hk _ hh3 hf (hPg _ _ _ _ _ hp hg) hr.1 hr.2 H1 locs1 ls hI1 hL) (fun E hE => by cases hE)
        · obtain ⟨E, S1, σ1, hg, hh4⟩ := hh2
          refine hcall _ _ _ _ _ _ hcd (Or.inr (Or.inl ⟨_, rfl⟩)) as r S σ _ kc ks hp hna hrl hg (fun _ _ _ e => nomatch e) hr.1 hr.2 H locs ls hI hL.2.1 (fun v' hv' => by cases hv') (fun E' hE H1 locs1 q ce hI1 h1 h2 h3 => ?_)
          cases hE
          rcases hh4 with ⟨hn, hh5⟩ | ⟨pre, q2, suf, hn, hNF, hh5⟩
          · exact hexc _ _ _ (hPh _ hh5 (hPg _ _ _ _ _ hp hg)) _ _ _ _ hn hr.1 hr.2 H1 locs1 ls q ce hI1 hL.2.1 h1 h2 h3
          · exact hcat _ _ _ _ _ hn _ L S1 σ1 _ _ H1 locs1 ls q ce hNF hf hI1 hL h1 h2 h3 (fun ls' hL' => hk _ hh5 (ga_lf_set hf (fun w e => by cases e)) (hPg _ _ _ _ _ hp hg) hr.1 hr.2 H1 locs1 ls' hI1 hL')
      · cases hh1
    case invokespecial idx =>
      simp only [ga_chk, beq_iff_eq] at hch
      rcases ga_if h with ⟨hr0, hh1⟩ | ⟨hr0, hh1⟩
      · subst hr0
        obtain ⟨n, r, rfl, hh2⟩ := ga_a1_s hh1
        rcases ga_if hh2 with ⟨hr, hh3⟩ | ⟨hr, hh3⟩
        · obtain ⟨h1, h2, h3⟩ := hobj _ _ _ _ _ hcd
          refine W.objInit hx hb hown h1 h2 h3 rfl hL.2.1 rfl (hch ▸ hd) hR3 ?_ (hk _ hh3 hf hp hkc hks H locs ls hI hL)
          have h8 := ga_catsum ad r
          have h9 := lv_room (m := m) (pc := pc) (ls := ls) (rest := r.map (ga_v ad)) (st := r.map (ga_v ad)) (by omega)
          show 2 * (F0 m pc ls (r.map (ga_v ad))).monitorRoom + _ + 12 ≤ R.locals
          omega
        · cases hh3
      · rcases ga_if hh1 with ⟨hr, hh4⟩ | ⟨hr, hh4⟩
        · obtain ⟨as, r, rfl, hna, hrl, hh5 | hh5⟩ := ga_call_s hgc hh4
          · obtain ⟨v, S1, σ1, hg, hh6⟩ := hh5
            exact hcall _ _ _ _ _ _ hcd (Or.inr (Or.inr ⟨⟨_, rfl⟩, hr0⟩)) as r S σ _ kc ks hp hna hrl hg (fun _ _ _ e => nomatch e) hr.1 hr.2 H locs ls hI hL.2.1 (fun v' hv' H1 locs1 hI1 => by cases hv'; exact hk _ hh6 hf (hPg _ _ _ _ _ hp hg) hr.1 hr.2 H1 locs1 ls hI1 hL) (fun E hE => by cases hE)
          · obtain ⟨E, S1, σ1, hg, hh7⟩ := hh5
            refine hcall _ _ _ _ _ _ hcd (Or.inr (Or.inr ⟨⟨_, rfl⟩, hr0⟩)) as r S σ _ kc ks hp hna hrl hg (fun _ _ _ e => nomatch e) hr.1 hr.2 H locs ls hI hL.2.1 (fun v' hv' => by cases hv') (fun E' hE H1 locs1 q ce hI1 h1 h2 h3 => ?_)
            cases hE
            rcases hh7 with ⟨hn, hh8⟩ | ⟨pre, q2, suf, hn, hNF, hh8⟩
            · exact hexc _ _ _ (hPh _ hh8 (hPg _ _ _ _ _ hp hg)) _ _ _ _ hn hr.1 hr.2 H1 locs1 ls q ce hI1 hL.2.1 h1 h2 h3
            · exact hcat _ _ _ _ _ hn _ L S1 σ1 _ _ H1 locs1 ls q ce hNF hf hI1 hL h1 h2 h3 (fun ls' hL' => hk _ hh8 (ga_lf_set hf (fun w e => by cases e)) (hPg _ _ _ _ _ hp hg) hr.1 hr.2 H1 locs1 ls' hI1 hL')
        · cases hh4
    case ireturn =>
      simp only [ga_chk, beq_iff_eq] at hch
      obtain ⟨x, rfl, hh1⟩ := ga_rI_s h
      rw [hch] at hd
      exact hret _ _ _ (hPh _ hh1 hp) pc kc ks hkc hks hd H locs ls hI
    case lreturn =>
      simp only [ga_chk, beq_iff_eq] at hch
      obtain ⟨x, rfl, hh1⟩ := ga_rJ_s h
      rw [hch] at hd
      exact hret _ _ _ (hPh _ hh1 hp) pc kc ks hkc hks hd H locs ls hI
    case dreturn =>
      simp only [ga_chk, beq_iff_eq] at hch
      obtain ⟨x, rfl, hh1⟩ := ga_rD_s h
      rw [hch] at hd
      exact hret _ _ _ (hPh _ hh1 hp) pc kc ks hkc hks hd H locs ls hI
    case areturn =>
      simp only [ga_chk, beq_iff_eq] at hch
      obtain ⟨x, rfl, hh1⟩ := ga_rA_s h
      rw [hch] at hd
      exact hret _ _ _ (hPh _ hh1 hp) pc kc ks hkc hks hd H locs ls hI
    case return_ =>
      simp only [ga_chk, beq_iff_eq] at hch
      obtain ⟨rfl, hh1⟩ := ga_rV_s h
      rw [hch] at hd
      exact hret _ _ _ (hPh _ hh1 hp) pc kc ks hkc hks hd H locs ls hI
    all_goals (exfalso; have h9 : (none : Option α) = some o := h; cases h9)
end GA5
