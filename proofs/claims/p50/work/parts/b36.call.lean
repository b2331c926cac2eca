section GB3
variable {p : Program} {l : Launch} {e : Env} {s : State} {m : MethodId} {args : Array Value} {below : List Frame} {meth : Method} {c : Code}
variable {D : va_G} {cA : Nat → ClassId} {ad : Nat → Nat} {A : Nat → Prop} {adV : Nat → Nat}
/-- the answer's kind, by the declared one -/
def gb_rt (ret : Option FieldType) (v : Option Value) : Prop := match v with
  | none => ret = none
  | some (.int x) => ret = some .int ∨ (ret = some .boolean ∧ (x = 0 ∨ x = 1))
  | some (.long _) => ret = some .long
  | some (.double _) => ret = some .double
  | some (.ref _) => ∃ n, ret = some (.object n)
  | _ => False
theorem gb_P.of {H0 H : Heap} {S : ga_S} {σ : ga_M} {locs : List Loc} (h : ga_I D cA A H0 ad 84 S σ H locs) {t : State} (ht : t.heap = H) : gb_P D cA ad A S σ t.heap := by
  rw [ht]; exact ⟨h.1, h.2.1, h.2.2.2⟩
theorem gb_retOk {cc : ByteArray} {R : Room} {mc ms : Nat} {o : ga_O} {ret : Option FieldType} (hx : p.tables.exec = Jvm.exec) (hb : c.code = cc) (hr : meth.sig.returnType = ret) (hlocks : meth.locks = false) (ho : ∀ v, o.1 = .inl v → gb_rt ret v) :
    ga_RetOk p l e R s m args below meth c (vx_MQ below (gb_Qc D cA ad A o) (gb_XC D cA ad A o) args s mc ms A) cc D cA ad A 84 mc ms 0 0 (fun o' => o' = o) := by
  intro v S σ hΦ pc kc ks hkc hks hri H locs ls hI
  have hΦ : ((Sum.inl v, S, σ) : ga_O) = o := hΦ
  subst hΦ
  have hrt := ho v rfl
  have hS := hI.2.2.1
  have hq : ∀ (t : State), t.heap = H → s.WarmedH t.vm → gb_Qc D cA ad A (Sum.inl v, S, σ) args s (.returned (v.map (ga_v ad))) t := fun t ht _ => ⟨⟨v, rfl, rfl, gb_P.of hI ht⟩, hS.F ht⟩
  refine W.widen (k := mc) (n := ms) (by omega) (by omega) (vx_ret ?_)
  match v, hri, hrt, hq with
  | none, hri, hrt, hq => exact W.vret hx hb (hr.trans hrt) hq hS.2.2 hri hlocks
  | some (.int x), hri, hrt, hq =>
    rcases hrt with h | ⟨h, h1⟩
    · exact W.iret hx hb (hr.trans h) hq hS.2.2 hri hlocks
    · exact W.zret (ty := .boolean) hx hb (hr.trans h) (by rcases h1 with rfl | rfl <;> rfl) hq hS.2.2 hri hlocks
  | some (.long x), hri, hrt, hq => exact W.lret hx hb (hr.trans hrt) hq hS.2.2 hri hlocks
  | some (.double x), hri, hrt, hq => exact W.dret hx hb (hr.trans hrt) hq hS.2.2 hri hlocks
  | some (.ref x), hri, hrt, hq =>
    obtain ⟨n, hn⟩ := hrt
    exact W.aret hx hb (hr.trans hn) (Or.inl ⟨n, rfl⟩) (Or.inr ⟨_, rfl⟩) hq hS.2.2 hri hlocks
theorem gb_excOk {R : Room} {mc ms : Nat} {o : ga_O} (hlocks : meth.locks = false) (hout : ∀ x ∈ c.exceptionTable.toList, False) :
    ga_ExcOk p l e R s m args below meth c (vx_MQ below (gb_Qc D cA ad A o) (gb_XC D cA ad A o) args s mc ms A) D cA ad A (fun _ => []) 84 mc ms gb_exn 0 0 (fun o' => o' = o) := by
  intro E S σ hΦ pc st kc ks _ hkc hks H locs ls q ce hI hsz hce hcv hcl
  have hΦ : ((Sum.inr E, S, σ) : ga_O) = o := hΦ
  subst hΦ
  exact vx_out (fun x hx => (hout x hx).elim) hlocks hce hcv hcl (fun t ht _ => ⟨⟨E, rfl, rfl, gb_P.of hI ht⟩, hI.2.2.1.F ht⟩) hI.2.2.1.2.2 (by omega) (by omega)
theorem gb_catOk {R : Room} {Q : State → Prop} {lf : Bool} {exn : Nat → String} {cb sb : Nat} : ga_CatOk p l e R s m args below meth c Q D cA ad A (fun _ => []) 84 lf exn cb sb := by
  intro pc E pre h suf hh
  exfalso
  have := congrArg List.length hh.1
  simp at this
end GB3
