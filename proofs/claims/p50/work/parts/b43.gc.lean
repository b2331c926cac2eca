noncomputable section
section GC0
variable {l : Launch} {D : va_G} {cA : Nat → ClassId} {ad : Nat → Nat} {A : Nat → Prop} {adV : Nat → Nat}
/-! ===== every method's contract, out of its run ===== -/
def gc_M (l : Launch) (D : va_G) (cA : Nat → ClassId) (ad : Nat → Nat) (A : Nat → Prop) (adV : Nat → Nat) (g : ga_G) (S : ga_S) (mid : Nat) : Prop :=
  ∀ as σ o, g ga_O mid as S σ some = some o → gb_C l D cA ad A adV (gb_y mid) (gb_ws (gb_y mid) (gb_b mid) (gb_n mid) (gb_r mid)) (gb_lv mid) (gaCost mid).1 (gaCost mid).2 as S σ o
def gc_St (mid : Nat) : Prop := gb_ki mid = 2 → ∀ as S σ o, gaG ga_O mid as S σ some = some o → ∃ i as', as = .ref (1000 + i) :: as' ∧ i < ga_txs.length
def gc_MM (l : Launch) (D : va_G) (cA : Nat → ClassId) (ad : Nat → Nat) (A : Nat → Prop) (adV : Nat → Nat) (mid : Nat) : Prop := gb_Tb mid ∧ gc_St mid ∧ gc_M l D cA ad A adV gaG gaSH mid
def gc_ck2 (ki ci : Nat) (sw : List (Int32 × Nat)) : Bool := match ki with
  | 0 => (match sw with
    | z :: _ => Nat.beq z.2 ci
    | [] => false)
  | 2 => true
  | _ => false
def gc_mt : List Nat := [11, 102]
def gc_ck (lk lkn : List (Nat × Nat)) (ms : List Nat) (lev : Nat) (q : Nat × ga_E) : Bool := match q.2.1 with
  | .invokevirtual i => Nat.beq q.2.2.2.1 399 || (ms.any (fun k => Nat.beq k q.2.2.2.1) && (Nat.ble (gb_lv q.2.2.2.1 + 1) lev && (lk.any (fun z => Nat.beq z.1 i && Nat.beq z.2 q.2.2.2.1) && (Nat.beq q.2.2.2.2.1 (gb_ar q.2.2.2.1 + 1) && gc_ck2 (gb_ki q.2.2.2.1) (gb_ci q.2.2.2.1) q.2.2.2.2.2))))
  | .invokestatic i => (gc_mt.any (fun k => Nat.beq k q.2.2.2.1) && lk.any (fun z => Nat.beq z.1 i && Nat.beq z.2 q.2.2.2.1)) || (ms.any (fun k => Nat.beq k q.2.2.2.1) && (Nat.ble (gb_lv q.2.2.2.1 + 1) lev && ((lk.any (fun z => Nat.beq z.1 i && Nat.beq z.2 q.2.2.2.1) || lkn.any (fun z => Nat.beq z.1 i && Nat.beq z.2 q.2.2.2.1)) && (Nat.beq q.2.2.2.2.1 (gb_ar q.2.2.2.1) && Nat.beq (gb_ki q.2.2.2.1) 1))))
  | .invokespecial _ => Nat.beq q.2.2.2.1 398
  | _ => true
theorem gc_any {l : List Nat} {k : Nat} (h : l.any (fun z => Nat.beq z k) = true) : k ∈ l := by
  obtain ⟨z, hz, h2⟩ := List.any_eq_true.mp h
  rw [← Nat.eq_of_beq_eq_true h2]; exact hz
theorem gc_any2 {l : List (Nat × Nat)} {a b : Nat} (h : l.any (fun z => Nat.beq z.1 a && Nat.beq z.2 b) = true) : (a, b) ∈ l := by
  obtain ⟨z, hz, h2⟩ := List.any_eq_true.mp h
  obtain ⟨h3, h4⟩ := Bool.and_eq_true_iff.mp h2
  rw [← Nat.eq_of_beq_eq_true h3, ← Nat.eq_of_beq_eq_true h4]; exact hz
theorem gc_Mt : ∀ mid ∈ gc_mt, ∃ mx : Bool, gb_y mid = (bif mx then Lib.Math.max.name else Lib.Math.min.name) ∧ Cond.static (bif mx then Lib.Math.max.name else Lib.Math.min.name) ∈ gb_good ∧ Cond.initialized "java/lang/Math" ∈ gb_good ∧ Cond.code (bif mx then Lib.Math.max.name else Lib.Math.min.name) (bif mx then Lib.Math.max.code else Lib.Math.min.code) 2 (some .int) ∈ gb_good ∧
    ∀ as S σ o, gaG ga_O mid as S σ some = some o → ∃ x y : Int32, as = [.int x, .int y] ∧ o = (.inl (some (.int (bif mx then (if x < y then y else x) else (if y < x then y else x)))), S, σ) := by
  refine List.forall_mem_cons.mpr ⟨⟨false, rfl, (gb_w3 16 rfl rfl), (gb_w1 22 rfl rfl), (gb_w3 17 rfl rfl), fun as S σ o hg => ?_⟩, List.forall_mem_cons.mpr ⟨⟨true, rfl, (gb_w6 68 rfl rfl), (gb_w1 22 rfl rfl), (gb_w6 69 rfl rfl), fun as S σ o hg => ?_⟩, fun _ h => nomatch h⟩⟩
  · replace hg : c_J9_min_7cf53 as S σ some = some o := hg
    unfold c_J9_min_7cf53 at hg
    split at hg
    · rename_i a b
      obtain rfl := Option.some.inj hg
      exact ⟨a, b, rfl, by rw [ve_J9_min_7cf53]; rfl⟩
    · cases hg
  · replace hg : c_J9_max_7cf53 as S σ some = some o := hg
    unfold c_J9_max_7cf53 at hg
    split at hg
    · rename_i a b
      obtain rfl := Option.some.inj hg
      exact ⟨a, b, rfl, by rw [ve_J9_max_7cf53]; rfl⟩
    · cases hg
theorem gc_hlk {own : String} {lk lkn : List (Nat × Nat)} {ms : List Nat} {lev : Nat} {cl : List (Nat × ga_E)} {g : ga_G} {PS : ga_S → ga_M → Prop} {S0 : ga_S} (hn : gb_Ln own lk lkn) (hM : ∀ mid ∈ ms, gb_Tb mid ∧ gc_St mid ∧ gc_M l D cA ad A adV g S0 mid)
    (hgG : ∀ mid as S σ o, g ga_O mid as S σ some = some o → gaG ga_O mid as S σ some = some o) (hd : ∀ as S σ, g ga_O 398 as S σ some = none) (hd2 : ∀ as S σ, g ga_O 399 as S σ some = none) (hPS : ∀ S σ, PS S σ → S = S0) (hck : cl.all (gc_ck lk lkn ms lev) = true) :
    ∀ q ∈ cl, ((∃ i, q.2.1 = .invokevirtual i) ∨ (∃ i, q.2.1 = .invokestatic i) ∨ (∃ i, q.2.1 = .invokespecial i) ∧ q.2.2.2.1 ≠ 0) → (∀ as S σ, g ga_O q.2.2.2.1 as S σ some = none) ∨ gb_LkM g own q.2.1 q.2.2.2.1 q.2.2.2.2.1 ∨ gb_Lk l D cA ad A adV g gaCost PS own lev q.2.1 q.2.2.2.1 q.2.2.2.2.1 q.2.2.2.2.2 := by
  intro q hq hi
  have h := List.all_eq_true.mp hck q hq
  obtain ⟨pc, ins, len, mid, na, sw⟩ := q
  dsimp only at h hi ⊢
  rcases hi with ⟨i, rfl⟩ | ⟨i, rfl⟩ | ⟨⟨i, rfl⟩, -⟩
  · have h : (Nat.beq mid 399 || (ms.any (fun k => Nat.beq k mid) && (Nat.ble (gb_lv mid + 1) lev && (lk.any (fun z => Nat.beq z.1 i && Nat.beq z.2 mid) && (Nat.beq na (gb_ar mid + 1) && gc_ck2 (gb_ki mid) (gb_ci mid) sw))))) = true := h
    rcases (Bool.or_eq_true _ _).mp h with h | h
    · rw [Nat.eq_of_beq_eq_true h]; exact Or.inl hd2
    · obtain ⟨h1, h⟩ := Bool.and_eq_true_iff.mp h
      obtain ⟨h2, h⟩ := Bool.and_eq_true_iff.mp h
      obtain ⟨h3, h⟩ := Bool.and_eq_true_iff.mp h
      obtain ⟨h4, h5⟩ := Bool.and_eq_true_iff.mp h
      obtain ⟨hT, hSt, hC⟩ := hM mid (gc_any h1)
      refine Or.inr (Or.inr ⟨gb_y mid, gb_b mid, gb_n mid, gb_r mid, gb_lv mid, gb_ar mid, Nat.le_of_ble_eq_true h2, hT.2.2.2.2.1, hT.2.2.1, hT.2.1, hT.2.2.2.1, Or.inl ⟨hT.1, fun as S σ o hP _ hgo => ?_, Or.inl ⟨i, rfl, Nat.eq_of_beq_eq_true h4, hn.1 _ (gc_any2 h3), ?_⟩⟩⟩)
      · have := hPS S σ hP
        subst this
        exact hC as σ o hgo
      · unfold gc_ck2 at h5
        split at h5
        · rename_i hk
          obtain ⟨k1, k2, T, N, k3⟩ := hT.2.2.2.2.2.1 hk
          split at h5
          · exact ⟨k1, k2, Or.inl ⟨_, _, T, N, rfl, by rw [Nat.eq_of_beq_eq_true h5]; exact k3⟩⟩
          · cases h5
        · rename_i hk
          obtain ⟨k1, k2, k3⟩ := hT.2.2.2.2.2.2.2 hk
          exact ⟨k1, k2, Or.inr ⟨k3, fun as S σ o hgo => hSt hk as S σ o (hgG _ _ _ _ _ hgo)⟩⟩
        · cases h5
  · have h : ((gc_mt.any (fun k => Nat.beq k mid) && lk.any (fun z => Nat.beq z.1 i && Nat.beq z.2 mid)) || (ms.any (fun k => Nat.beq k mid) && (Nat.ble (gb_lv mid + 1) lev && ((lk.any (fun z => Nat.beq z.1 i && Nat.beq z.2 mid) || lkn.any (fun z => Nat.beq z.1 i && Nat.beq z.2 mid)) && (Nat.beq na (gb_ar mid) && Nat.beq (gb_ki mid) 1))))) = true := h
    rcases (Bool.or_eq_true _ _).mp h with h | h
    · obtain ⟨h1, h2⟩ := Bool.and_eq_true_iff.mp h
      obtain ⟨mx, e1, k1, k2, k3, k4⟩ := gc_Mt mid (gc_any h1)
      exact Or.inr (Or.inl ⟨mx, i, rfl, e1 ▸ hn.1 _ (gc_any2 h2), k1, k2, k3, fun as S σ o hg => k4 as S σ o (hgG _ _ _ _ _ hg)⟩)
    obtain ⟨h1, h⟩ := Bool.and_eq_true_iff.mp h
    obtain ⟨h2, h⟩ := Bool.and_eq_true_iff.mp h
    obtain ⟨h3, h⟩ := Bool.and_eq_true_iff.mp h
    obtain ⟨h4, h5⟩ := Bool.and_eq_true_iff.mp h
    obtain ⟨hT, hSt, hC⟩ := hM mid (gc_any h1)
    have hst := hT.2.2.2.2.2.2.1 (Nat.eq_of_beq_eq_true h5)
    refine Or.inr (Or.inr ⟨gb_y mid, gb_b mid, gb_n mid, gb_r mid, gb_lv mid, gb_ar mid, Nat.le_of_ble_eq_true h2, hT.2.2.2.2.1, hT.2.2.1, hT.2.1, hT.2.2.2.1, Or.inl ⟨hT.1, fun as S σ o hP _ hgo => ?_, ?_⟩⟩)
    · have := hPS S σ hP
      subst this
      exact hC as σ o hgo
    · rcases (Bool.or_eq_true _ _).mp h3 with h3 | h3
      · exact Or.inr (Or.inl ⟨i, rfl, Nat.eq_of_beq_eq_true h4, hn.1 _ (gc_any2 h3), hst⟩)
      · obtain ⟨-, host, k⟩ := hn.2 _ (gc_any2 h3)
        exact Or.inr (Or.inr (Or.inl ⟨i, host, rfl, Nat.eq_of_beq_eq_true h4, k, hst⟩))
  · have h : Nat.beq mid 398 = true := h
    rw [Nat.eq_of_beq_eq_true h]; exact Or.inl hd
/-! what a table gives, taken apart -/
theorem gc_bif {α : Type} {b : Bool} {x : Option α} {o : α} (h : (bif b then x else none) = some o) : b = true ∧ x = some o := by
  cases b with
  | true => exact ⟨rfl, h⟩
  | false => cases h
theorem gc_bif2 {α : Type} {b : Bool} {x y : Option α} {o : α} (h : (bif b then x else y) = some o) : (b = true ∧ x = some o) ∨ y = some o := by
  cases b with
  | true => exact Or.inl ⟨rfl, h⟩
  | false => exact Or.inr h
theorem gc_bind {α β : Type} {x : Option β} {f : β → Option α} {o : α} (h : x.bind f = some o) : ∃ y, x = some y ∧ f y = some o := by
  cases x with
  | none => cases h
  | some y => exact ⟨y, rfl, h⟩
theorem gc_hoI {r : Int32 × ga_M} {S : ga_S} : ∀ o', ga_kI o' = some r → o'.2.1 = S → o' = (.inl (some (.int r.1)), S, r.2) := by
  rintro ⟨(_ | v) | E, S', σ'⟩ h hS
  · cases h
  · cases v <;> first | (cases h; cases hS; rfl) | cases h
  · cases h
theorem gc_hoA {r : Nat × ga_M} {S : ga_S} : ∀ o', ga_kA o' = some r → o'.2.1 = S → o' = (.inl (some (.ref r.1)), S, r.2) := by
  rintro ⟨(_ | v) | E, S', σ'⟩ h hS
  · cases h
  · cases v <;> first | (cases h; cases hS; rfl) | cases h
  · cases h
theorem gc_hoJ {r : Int64 × ga_M} {S : ga_S} : ∀ o', ga_kJ o' = some r → o'.2.1 = S → o' = (.inl (some (.long r.1)), S, r.2) := by
  rintro ⟨(_ | v) | E, S', σ'⟩ h hS
  · cases h
  · cases v <;> first | (cases h; cases hS; rfl) | cases h
  · cases h
theorem gc_hoD {r : UInt64 × ga_M} {S : ga_S} : ∀ o', ga_kD o' = some r → o'.2.1 = S → o' = (.inl (some (.double r.1)), S, r.2) := by
  rintro ⟨(_ | v) | E, S', σ'⟩ h hS
  · cases h
  · cases v <;> first | (cases h; cases hS; rfl) | cases h
  · cases h
theorem gc_hoV {r : ga_M} {S : ga_S} : ∀ o', ga_kV o' = some r → o'.2.1 = S → o' = (.inl none, S, r) := by
  rintro ⟨(_ | v) | E, S', σ'⟩ h hS
  · cases h; cases hS; rfl
  · cases h
  · cases h
theorem gc_hoIXl {x : Int32} {s : ga_M} {S : ga_S} : ∀ o', ga_kIX o' = some (.inl x, s) → o'.2.1 = S → o' = (.inl (some (.int x)), S, s) := by
  rintro ⟨(_ | v) | E, S', σ'⟩ h hS
  · cases h
  · cases v <;> first | (cases h; cases hS; rfl) | cases h
  · cases h
theorem gc_hoIXr {x : Nat} {s : ga_M} {S : ga_S} : ∀ o', ga_kIX o' = some (.inr x, s) → o'.2.1 = S → o' = (.inr x, S, s) := by
  rintro ⟨(_ | v) | E, S', σ'⟩ h hS
  · cases h
  · cases v <;> first | (cases h; done) | cases h
  · cases h; cases hS; rfl
theorem gc_hoVXl {s : ga_M} {S : ga_S} : ∀ o', ga_kVX o' = some (none, s) → o'.2.1 = S → o' = (.inl none, S, s) := by
  rintro ⟨(_ | v) | E, S', σ'⟩ h hS
  · cases h; cases hS; rfl
  · cases h
  · cases h
theorem gc_hoVXr {x : Nat} {s : ga_M} {S : ga_S} : ∀ o', ga_kVX o' = some (some x, s) → o'.2.1 = S → o' = (.inr x, S, s) := by
  rintro ⟨(_ | v) | E, S', σ'⟩ h hS
  · cases h
  · cases h
  · cases h; cases hS; rfl
theorem gd_hoI {r : Int32} {S : ga_S} {s : ga_M} : ∀ o', gp_kI o' = some r → o'.2.1 = S ∧ o'.2.2 = s → o' = (.inl (some (.int r)), S, s) := by
  rintro ⟨(_ | v) | E, S', σ'⟩ h ⟨hS, hs⟩
  · cases h
  · cases v <;> first | (cases h; cases hS; cases hs; rfl) | cases h
  · cases h
theorem gd_hoJ {r : Int64} {S : ga_S} {s : ga_M} : ∀ o', gp_kJ o' = some r → o'.2.1 = S ∧ o'.2.2 = s → o' = (.inl (some (.long r)), S, s) := by
  rintro ⟨(_ | v) | E, S', σ'⟩ h ⟨hS, hs⟩
  · cases h
  · cases v <;> first | (cases h; cases hS; cases hs; rfl) | cases h
  · cases h
theorem gd_hoD {r : UInt64} {S : ga_S} {s : ga_M} : ∀ o', gp_kD o' = some r → o'.2.1 = S ∧ o'.2.2 = s → o' = (.inl (some (.double r)), S, s) := by
  rintro ⟨(_ | v) | E, S', σ'⟩ h ⟨hS, hs⟩
  · cases h
  · cases v <;> first | (cases h; cases hS; cases hs; rfl) | cases h
  · cases h
theorem gd_hoA {r : Nat} {S : ga_S} {s : ga_M} : ∀ o', gp_kA o' = some r → o'.2.1 = S ∧ o'.2.2 = s → o' = (.inl (some (.ref r)), S, s) := by
  rintro ⟨(_ | v) | E, S', σ'⟩ h ⟨hS, hs⟩
  · cases h
  · cases v <;> first | (cases h; cases hS; cases hs; rfl) | cases h
  · cases h
theorem gd_hoIXl {x : Int32} {S : ga_S} {s : ga_M} : ∀ o', gp_kIX o' = some (.inl x) → o'.2.1 = S ∧ o'.2.2 = s → o' = (.inl (some (.int x)), S, s) := by
  rintro ⟨(_ | v) | E, S', σ'⟩ h ⟨hS, hs⟩
  · cases h
  · cases v <;> first | (cases h; cases hS; cases hs; rfl) | cases h
  · cases h
theorem gd_hoIXr {x : Nat} {S : ga_S} {s : ga_M} : ∀ o', gp_kIX o' = some (.inr x) → o'.2.1 = S ∧ o'.2.2 = s → o' = (.inr x, S, s) := by
  rintro ⟨(_ | v) | E, S', σ'⟩ h ⟨hS, hs⟩
  · cases h
  · cases v <;> first | (cases h; done) | cases h
  · cases h; cases hS; cases hs; rfl
theorem gd_hoVXl {S : ga_S} {s : ga_M} : ∀ o', gp_kVX o' = some none → o'.2.1 = S ∧ o'.2.2 = s → o' = (.inl none, S, s) := by
  rintro ⟨(_ | v) | E, S', σ'⟩ h ⟨hS, hs⟩
  · cases h; cases hS; cases hs; rfl
  · cases h
  · cases h
theorem gd_hoVXr {x : Nat} {S : ga_S} {s : ga_M} : ∀ o', gp_kVX o' = some (some x) → o'.2.1 = S ∧ o'.2.2 = s → o' = (.inr x, S, s) := by
  rintro ⟨(_ | v) | E, S', σ'⟩ h ⟨hS, hs⟩
  · cases h
  · cases h
  · cases h; cases hS; cases hs; rfl
theorem gc_S83 : ¬ gaSH.length < 84 := by decide +kernel
/-- a method that writes -/
theorem gc_metG {α : Type} {y : MethodName} {own : String} {cc : ByteArray} {cl : List (Nat × ga_E)} {maxL lev mc ms : Nat} {ret : Option FieldType} {lf : Bool} {K0 : ga_O → Option α} {as : List Value} {σ : ga_M} {r : α} {o : ga_O}
    {fl : List (Nat × Nat × Nat)} {sl : List (Nat × Nat)} {nl ll : List (Nat × Int32)} {tl : List (Nat × Nat × Nat)} {lk lkn : List (Nat × Nat)} {mids : List Nat}
    (hl : l.stackTraces = false) (hy : plainName own = true) (hyo : y.cls = own) (hown : gb_Own own fl sl nl ll tl) (hck : cl.all (gb_rk fl sl nl ll tl cc) = true) (hn : gb_Ln own lk lkn) (hM : ∀ mid ∈ mids, gc_MM l D cA ad A adV mid) (hcl : cl.all (gc_ck lk lkn mids lev) = true)
    (hT : ga_T own cc (ga_lk cl) gaG gaCost (fun _ => []) gaCls 84 mc ms false lf true none (fun S _ => S = gaSH) K0 (0, gb_L0 as maxL, [], gaSH, σ, 0, 0) r)
    (ho : ∀ o', K0 o' = some r → o'.2.1 = gaSH → o' = o) (ho2 : o.2.1 = gaSH) (hrt : ∀ v, o.1 = .inl v → gb_rt ret v) (hnl : (gb_fl as).length ≤ maxL) (hlf : (!lf || as.all fun v => v.category == 1) = true) (hlev : cl.all (gb_lvk lev) = true := by decide +kernel) :
    gb_C l D cA ad A adV y (gb_ws y cc maxL ret) lev mc ms as gaSH σ o :=
  gb_met (g := gaG) (cost := gaCost) (wr := true) (PS := fun S _ => S = gaSH) hl (hyo ▸ hy) hyo hown hck
    (gc_hlk hn hM (fun _ _ _ _ _ h => h) gf_398 gf_399 (fun _ _ h => h) hcl) hT rfl (fun _ _ _ _ h => h) (fun mid as S σ o h hg => (ge_at (ge_G mid as S σ) hg).trans h)
    (fun α mid as S σ k o h => (ge_G mid as S σ α k o h).elim fun o1 h1 => ⟨o1, h1.2⟩) ho (fun _ _ => by rw [ho2]; exact gc_S83) hrt hnl hlf hlev
/-- a method that only reads -/
theorem gc_metP {α : Type} {y : MethodName} {own : String} {cc : ByteArray} {cl : List (Nat × ga_E)} {maxL lev mc ms : Nat} {ret : Option FieldType} {lf : Bool} {K0 : ga_O → Option α} {as : List Value} {σ : ga_M} {r : α} {o : ga_O}
    {fl : List (Nat × Nat × Nat)} {sl : List (Nat × Nat)} {nl ll : List (Nat × Int32)} {tl : List (Nat × Nat × Nat)} {lk lkn : List (Nat × Nat)} {mids : List Nat}
    (hl : l.stackTraces = false) (hy : plainName own = true) (hyo : y.cls = own) (hown : gb_Own own fl sl nl ll tl) (hck : cl.all (gb_rk fl sl nl ll tl cc) = true) (hn : gb_Ln own lk lkn) (hM : ∀ mid ∈ mids, gc_MM l D cA ad A adV mid) (hcl : cl.all (gc_ck lk lkn mids lev) = true)
    (hT : ga_T own cc (ga_lk cl) gaGP gaCost (fun _ => []) gaCls 84 mc ms false lf false none (fun S σ' => S = gaSH ∧ σ' = σ) K0 (0, gb_L0 as maxL, [], gaSH, σ, 0, 0) r)
    (ho : ∀ o', K0 o' = some r → o'.2.1 = gaSH ∧ o'.2.2 = σ → o' = o) (ho2 : o.2.1 = gaSH) (hrt : ∀ v, o.1 = .inl v → gb_rt ret v) (hnl : (gb_fl as).length ≤ maxL) (hlf : (!lf || as.all fun v => v.category == 1) = true) (hlev : cl.all (gb_lvk lev) = true := by decide +kernel) :
    gb_C l D cA ad A adV y (gb_ws y cc maxL ret) lev mc ms as gaSH σ o :=
  gb_met (g := gaGP) (cost := gaCost) (wr := false) (PS := fun S σ' => S = gaSH ∧ σ' = σ) hl (hyo ▸ hy) hyo hown hck
    (gc_hlk hn (fun mid hm => ⟨(hM mid hm).1, (hM mid hm).2.1, fun as σ o hg => (hM mid hm).2.2 as σ o (gf_GP _ _ _ _ o hg)⟩) (fun _ _ _ _ o h => gf_GP _ _ _ _ o h) gf_398P gf_399P (fun _ _ h => h.1) hcl) hT ⟨rfl, rfl⟩ (fun h => nomatch h)
    (fun mid as S σ o h hg => ⟨(ge_at (ge_GP mid as S σ) hg).1.trans h.1, (ge_at (ge_GP mid as S σ) hg).2.trans h.2⟩)
    (fun α mid as S σ k o h => (ge_GP mid as S σ α k o h).elim fun o1 h1 => ⟨o1, h1.2⟩) ho (fun _ _ => by rw [ho2]; exact gc_S83) hrt hnl hlf hlev
end GC0
end
theorem gc_pnX0 : plainName RX0 = true := by decide +kernel
theorem gc_pnX1 : plainName RX1 = true := by decide +kernel
theorem gc_pnX10 : plainName RX10 = true := by decide +kernel
theorem gc_pnX11 : plainName RX11 = true := by decide +kernel
theorem gc_pnX2 : plainName RX2 = true := by decide +kernel
theorem gc_pnX3 : plainName RX3 = true := by decide +kernel
theorem gc_pnX4 : plainName RX4 = true := by decide +kernel
theorem gc_pnX5 : plainName RX5 = true := by decide +kernel
theorem gc_pnX7 : plainName RX7 = true := by decide +kernel
theorem gc_pnX8 : plainName RX8 = true := by decide +kernel
