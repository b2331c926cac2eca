noncomputable section
section GW1
variable {p : Program} {l : Launch} {e : Env} {s : State} {m : MethodId} {args : Array Value} {below : List Frame} {meth : Method} {c : Code}
variable {D : va_G} {cA : Nat → ClassId} {ad : Nat → Nat} {A : Nat → Prop} {adV : Nat → Nat}
theorem gb_callOkB {cb sb : Nat} {R : Room} {Ts : List Cond} {cc : ByteArray} {own : String} {maxL0 lev mc ms : Nat} {g : ga_G} {cost : Nat → Nat × Nat} {PS : ga_S → ga_M → Prop} {code : Nat → Option ga_E} {Q : State → Prop} (hR1 : 1 + lev ≤ R.frames) (hR2 : 30 + 33 * lev ≤ R.locals) (hR3 : cb + mc ≤ R.cells) (hR4 : sb + ms ≤ R.slots)
    (hx : p.tables.exec = Jvm.exec) (hb : c.code = cc) (hml : c.maxLocals = maxL0)
    (hown : s.vm.findClass own = some m.cls) (hT : ∀ w ∈ gb_good, w ∈ Ts) (hts : ∀ w ∈ Ts, w.before args s = true) (hE : gb_E D cA ad A adV s s.heap)
    (hdec : ∀ pc ins len r1 r2 sw, code pc = some (ins, len, r1, r2, sw) → decode cc pc = .ok (ins, len) ∧ ga_chk pc ins len r1 sw = true)
    (hlk : ∀ pc ins len mid na sw, code pc = some (ins, len, mid, na, sw) → ((∃ i, ins = .invokevirtual i) ∨ (∃ i, ins = .invokestatic i) ∨ (∃ i, ins = .invokespecial i) ∧ mid ≠ 0) → (∀ as S σ, g ga_O mid as S σ some = none) ∨ gb_LkM g own ins mid na ∨ gb_Lk l D cA ad A adV g cost PS own lev ins mid na sw) :
    ga_CallOk p l e R s m args below meth c Q D cA ad A code g cost 84 mc ms gb_exn cb sb PS := by
  intro pc ins len mid na sw hcode hins as r S σ o kc ks hPS hlen hsum hg hrv hkc hks H locs ls hI hsz kk kx
  rcases hlk pc ins len mid na sw hcode hins with hdead | ⟨mx, i, rfl, hlkw, hst, hini, hcw, hgm⟩ | ⟨y, bytes, maxL, ret, lv, n, hlv, hmL, hmh, hini, hpar, hk⟩
  · rw [hdead] at hg; cases hg
  · obtain ⟨x, y, rfl, rfl⟩ := hgm as S σ o hg
    obtain ⟨hdg, hchk⟩ := hdec pc _ len mid na sw hcode
    have hlen3 : len = 3 := by simpa [ga_chk] using hchk
    subst hlen3
    have hgood : ∀ w ∈ gb_good, w.before args s = true := fun w h => hts w (hT w h)
    have hcat : ((r.map (ga_v ad)).map fun v => v.category).sum ≤ 8 := by
      rw [List.map_map]
      have : ((fun v : Value => v.category) ∘ ga_v ad) = fun v => v.category := funext fun v => ga_v_cat ad v
      rw [this]; exact hsum
    have hW := kk _ rfl H locs hI
    have hW2 : W p l e R s m args below meth c H locs (cb + kc) (sb + ks) Q (F0 m (pc + 3) ls (.int (bif mx then (if x < y then y else x) else (if y < x then y else x)) :: r.map (ga_v ad))) := W.widen (by omega) (by omega) hW
    cases mx with
    | true => exact va_mmax hx hb hsz.symm hown (hgood _ hlkw) (hgood _ hst) (hgood _ hini) (hgood _ hcw) (by omega) (Nat.le_trans (Nat.add_le_add_right hcat 13) (by omega)) (by omega) (by omega) hdg hW2
    | false => exact va_mmin hx hb hsz.symm hown (hgood _ hlkw) (hgood _ hst) (hgood _ hini) (hgood _ hcw) (by omega) (Nat.le_trans (Nat.add_le_add_right hcat 13) (by omega)) (by omega) (by omega) hdg hW2
  obtain ⟨hdg, hchk⟩ := hdec pc ins len mid na sw hcode
  have hF : CallFix p m c cc maxL0 s args Ts own := ⟨hx, hb, hml, hown, hts⟩
  have hgood : ∀ w ∈ gb_good, w.before args s = true := fun w h => hts w (hT w h)
  have hPc : ∀ U : State, U.heap = H → s.WarmedH U.vm → gb_Pc D cA ad A adV as S σ (as.map (ga_v ad)).toArray U := fun U hU hW => ⟨rfl, gb_P.of hI hU, by rw [hU]; exact hE.to hW hI.2.2.1.1 hI.2.2.1.2.1⟩
  have hcat : ((r.map (ga_v ad)).map fun v => v.category).sum ≤ 8 := by
    rw [List.map_map]
    have : ((fun v : Value => v.category) ∘ ga_v ad) = fun v => v.category := funext fun v => ga_v_cat ad v
    rw [this]; exact hsum
  have hsz2 : ls.size = maxL0 := by rw [hsz, hml]
  have hroom : (gb_rm lv (cost mid).1 (cost mid).2).frames + 1 ≤ R.frames ∧ 8 + (maxL + 11) + (gb_rm lv (cost mid).1 (cost mid).2).locals ≤ R.locals := by
    simp only [gb_rm]; omega
  have hf : cb + kc + (cost mid).1 ≤ R.cells ∧ sb + ks + (cost mid).2 ≤ R.slots := by
    omega
  have hlen3 : len = 3 := by
    rcases hins with ⟨i, rfl⟩ | ⟨i, rfl⟩ | ⟨⟨i, rfl⟩, -⟩ <;> simpa [ga_chk] using hchk
  subst hlen3
  have hS9 := hI.2.2.1
  have hkk : ∀ v, o.1 = .inl v → ∀ (H1 : Heap) (locs1 : List Loc), ga_I D cA A s.heap ad 84 o.2.1 o.2.2 H1 locs1 → W p l e R s m args below meth c H1 locs1 (cb + kc + (cost mid).1) (sb + ks + (cost mid).2) Q (F0 m (pc + 3) ls ((v.toList ++ r).map (ga_v ad))) := fun v hv H1 locs1 hI1 => by simpa [Nat.add_assoc] using kk v hv H1 locs1 hI1
  have hkx : ∀ E, o.1 = .inr E → ∀ (H1 : Heap) (locs1 : List Loc) (q : Addr) (ce : Cell), ga_I D cA A s.heap ad 84 o.2.1 o.2.2 H1 locs1 → H1[q]? = some ce → ce.vm = .none → s.vm.findClass (gb_exn E) = some ce.cls → vx_W p l e R s m args below meth c H1 locs1 (cb + kc + (cost mid).1) (sb + ks + (cost mid).2) Q (F0 m pc ls (r.map (ga_v ad))) q := fun E hE1 H1 locs1 q ce h1 h2 h3 h4 => by simpa [Nat.add_assoc] using kx E hE1 H1 locs1 q ce h1 h2 h3 h4
  rcases hk with ⟨hcw, hC, hkind⟩ | ⟨hh, hcw, hC, i, rfl, hna, hlkw, hst⟩
  · have hM := hC as S σ o hPS hlen hg
    rcases hkind with ⟨i, rfl, hna, hlkw, hinst, hsel, hrc⟩ | ⟨i, rfl, hna, hlkw, hst⟩ | ⟨i, host, rfl, hna, hlkw, hst⟩ | ⟨i, rfl, hna, hnm, rfl, hlkw, hinst, hrc⟩ | ⟨i, host, rfl, hna, hnm, rfl, hlkw, hinst, hrc⟩
    · have hcb := callB_of (own := own) (index := i) (R := R) n hts (gb_ws_in hT hcw) rfl rfl rfl (hgood _ hini) (hgood _ hlkw) ⟨hmh.1, hmh.2, hpar⟩ hroom
      have hcW : CallW R s args own y.cls i y bytes maxL ret (gb_ws y bytes maxL ret) (gb_rm lv (cost mid).1 (cost mid).2) (cost mid).1 (cost mid).2 n := ⟨hcb, hgood _ hinst, hgood _ hsel⟩
      have hrec : ∃ n0 as', as = .ref n0 :: as' ∧ ∃ cellB : Cell, H[ad n0]? = some cellB ∧ cellB.vm.isStatics = false ∧ s.vm.findClass y.cls = some cellB.cls := by
        rcases hrc with ⟨q, r', T, N, hsw, hcl⟩ | ⟨hcls, hw⟩
        · obtain ⟨n0, fs, as', h1, h2⟩ := hrv i q r' rfl hsw
          exact ⟨n0, as', h1, va_recv (hE.1) hI.1 hcl (ga_w_at h2)⟩
        · obtain ⟨i0, as', h1, h2⟩ := hw as S σ o hg
          refine ⟨1000 + i0, as', h1, ?_⟩
          have hS := hE.2.2.2.2.2.2.2.2.1
          have := (hS.to (Vm.Alike.refl s.vm) hI.2.2.1.2.1) i0 h2
          rw [hcls]
          obtain ⟨cell, h3, h4, h5, -⟩ := this.1
          exact ⟨cell, h3, h4, h5⟩
      obtain ⟨n0, as', has, hcell⟩ := hrec
      subst has
      have hrun := vx_runV (e := e) (meth := meth) (below := below) (g := F0 m pc ls ((((Value.ref n0 :: as').reverse ++ r)).map (ga_v ad))) (rest := r.map (ga_v ad)) (As := as'.map (ga_v ad)) (b := ad n0) (H := H) (locs := locs) (cells := cb + kc) (slots := sb + ks) hF hM hcW ⟨gb_blind, hcell, hPc⟩ rfl
        (by have : (as'.map (ga_v ad)).length = as'.length := List.length_map ..
            have h2 : as'.length + 1 = na := hlen
            omega) hsz2 (by simp [List.map_append, List.map_reverse, ga_v]) (by simpa [F0, JFrame.monitorRoom] using hcat) hdg hf
      exact gb_done hrun hS9 hkk hkx
    · have hcb := callB_of (own := own) (index := i) (R := R) n hts (gb_ws_in hT hcw) rfl rfl rfl (hgood _ hini) (hgood _ hlkw) ⟨hmh.1, hmh.2, hpar⟩ hroom
      have hrun := vx_runS (e := e) (meth := meth) (below := below) (g := F0 m pc ls ((as.reverse ++ r).map (ga_v ad))) (rest := r.map (ga_v ad)) (As := as.map (ga_v ad)) (H := H) (locs := locs) (cells := cb + kc) (slots := sb + ks) hF hM ⟨hcb, hgood _ hst⟩ ⟨gb_blind, hPc⟩ rfl
        (by have : (as.map (ga_v ad)).length = as.length := List.length_map ..
            omega) hsz2 (by simp [List.map_append, List.map_reverse]) (by simpa [F0, JFrame.monitorRoom] using hcat) hdg hf
      exact gb_done hrun hS9 hkk hkx
    · have hcn := va_cnB (own := own) (host := host) (index := i) (R := R) n hts (gb_ws_in hT hcw) rfl rfl rfl (hE.2.2.1 _ hlkw) (hgood _ hini) ⟨hmh.1, hmh.2, hpar⟩ hroom
      have hrun := vx_runSN (e := e) (meth := meth) (below := below) (g := F0 m pc ls ((as.reverse ++ r).map (ga_v ad))) (rest := r.map (ga_v ad)) (As := as.map (ga_v ad)) (H := H) (locs := locs) (cells := cb + kc) (slots := sb + ks) hF hM ⟨hcn, hgood _ hst, trivial⟩ ⟨gb_blind, hPc⟩ rfl
        (by have : (as.map (ga_v ad)).length = as.length := List.length_map ..
            omega) hsz2 (by simp [List.map_append, List.map_reverse]) (by simpa [F0, JFrame.monitorRoom] using hcat) hdg hf
      exact gb_done hrun hS9 hkk hkx
    · obtain ⟨n0, as', has⟩ := hrc as S σ o hg
      subst has
      have hcb := callB_of (own := own) (index := i) (R := R) n hts (gb_ws_in hT hcw) rfl rfl rfl (hgood _ hini) (hgood _ hlkw) ⟨hmh.1, hmh.2, hpar⟩ hroom
      have hrun := vx_runI (e := e) (meth := meth) (below := below) (g := F0 m pc ls ((((Value.ref n0 :: as').reverse ++ r)).map (ga_v ad))) (rest := r.map (ga_v ad)) (As := as'.map (ga_v ad)) (b := ad n0) (H := H) (locs := locs) (cells := cb + kc) (slots := sb + ks) hF hM ⟨hcb, hnm, hgood _ hinst⟩ ⟨gb_blind, hPc⟩ rfl
        (by have : (as'.map (ga_v ad)).length = as'.length := List.length_map ..
            have h2 : as'.length + 1 = na := hlen
            omega) hsz2 (by simp [List.map_append, List.map_reverse, ga_v]) (by simpa [F0, JFrame.monitorRoom] using hcat) hdg hf
      exact gb_done hrun hS9 hkk hkx
    · obtain ⟨n0, as', has⟩ := hrc as S σ o hg
      subst has
      have hcn := va_cnB (own := own) (host := host) (index := i) (R := R) n hts (gb_ws_in hT hcw) rfl rfl rfl (hE.2.2.1 _ hlkw) (hgood _ hini) ⟨hmh.1, hmh.2, hpar⟩ hroom
      have hrun := vx_runIN (e := e) (meth := meth) (below := below) (g := F0 m pc ls ((((Value.ref n0 :: as').reverse ++ r)).map (ga_v ad))) (rest := r.map (ga_v ad)) (As := as'.map (ga_v ad)) (b := ad n0) (H := H) (locs := locs) (cells := cb + kc) (slots := sb + ks) hF hM ⟨hcn, hnm, hgood _ hinst⟩ ⟨gb_blind, hPc⟩ rfl
        (by have : (as'.map (ga_v ad)).length = as'.length := List.length_map ..
            have h2 : as'.length + 1 = na := hlen
            omega) hsz2 (by simp [List.map_append, List.map_reverse, ga_v]) (by simpa [F0, JFrame.monitorRoom] using hcat) hdg hf
      exact gb_done hrun hS9 hkk hkx
  · have hM := hC as S σ o hPS hlen hg
    have hcs : vx_CSW R s args own i y bytes maxL ret hh (gb_wsW y bytes maxL ret hh) (gb_rm lv (cost mid).1 (cost mid).2) (cost mid).1 (cost mid).2 n := by
      refine ⟨⟨rfl, rfl, hroom.1, hroom.2, pay_in hts (gb_wsW_in hT hcw), List.mem_cons_self⟩, hgood _ hcw, hgood _ hini, hmh, fun sig h => ?_, hgood _ hlkw, hgood _ hst⟩
      rw [h] at hpar
      exact (Option.some.inj hpar).symm
    have hrun := vx_runSX (e := e) (meth := meth) (below := below) (g := F0 m pc ls ((as.reverse ++ r).map (ga_v ad))) (rest := r.map (ga_v ad)) (As := as.map (ga_v ad)) (H := H) (locs := locs) (cells := cb + kc) (slots := sb + ks) hF hM hcs ⟨gb_blind, hPc⟩ rfl
      (by have : (as.map (ga_v ad)).length = as.length := List.length_map ..
          omega) hsz2 (by simp [List.map_append, List.map_reverse]) (by simpa [F0, JFrame.monitorRoom] using hcat) hdg hf
    exact gb_done hrun hS9 hkk hkx
end GW1
section GW2
variable {l : Launch} {D : va_G} {cA : Nat → ClassId} {ad : Nat → Nat} {A : Nat → Prop} {adV : Nat → Nat}
/-- a row's call: one of Math, or one with a contract -/
def gw_Row (l : Launch) (D : va_G) (cA : Nat → ClassId) (ad : Nat → Nat) (A : Nat → Prop) (adV : Nat → Nat) (r : Instr × Nat × Nat × List (Int32 × Nat)) : Prop := gb_LkM (gaLaw (gw_xs adV) (adV 1999)) RL r.1 r.2.1 r.2.2.1 ∨ gb_Lk l D cA ad A adV (gaLaw (gw_xs adV) (adV 1999)) gaCostW (fun _ _ => True) RL 10 r.1 r.2.1 r.2.2.1 r.2.2.2
theorem gw_hlk {rows : List (Instr × Nat × Nat × List (Int32 × Nat))} {cl : List (Nat × ga_E)} (hr : ∀ r ∈ rows, gw_Row l D cA ad A adV r) (hck : cl.all (gk_cr rows) = true) :
    ∀ q ∈ cl, ((∃ i, q.2.1 = .invokevirtual i) ∨ (∃ i, q.2.1 = .invokestatic i) ∨ (∃ i, q.2.1 = .invokespecial i) ∧ q.2.2.2.1 ≠ 0) → (∀ as S σ, (gaLaw (gw_xs adV) (adV 1999)) ga_O q.2.2.2.1 as S σ some = none) ∨ gb_LkM (gaLaw (gw_xs adV) (adV 1999)) RL q.2.1 q.2.2.2.1 q.2.2.2.2.1 ∨ gb_Lk l D cA ad A adV (gaLaw (gw_xs adV) (adV 1999)) gaCostW (fun _ _ => True) RL 10 q.2.1 q.2.2.2.1 q.2.2.2.2.1 q.2.2.2.2.2 := by
  intro q hq hi
  have h := List.all_eq_true.mp hck q hq
  obtain ⟨pc, ins, len, mid, na, sw⟩ := q
  have fin : (rows.any fun r => decide (r = (ins, mid, na, sw))) = true → gw_Row l D cA ad A adV (ins, mid, na, sw) := fun h => by
    obtain ⟨r, hr9, h9⟩ := List.any_eq_true.mp h
    have h9 := of_decide_eq_true h9
    have := hr r hr9
    rw [h9] at this
    exact this
  dsimp only at hi ⊢
  rcases hi with ⟨i, rfl⟩ | ⟨i, rfl⟩ | ⟨⟨i, rfl⟩, hm⟩
  · exact Or.inr (fin h)
  · exact Or.inr (fin h)
  · rcases (Bool.or_eq_true _ _).mp (show (Nat.beq mid 0 || rows.any fun r => decide (r = (.invokespecial i, mid, na, sw))) = true from h) with h | h
    · exact absurd (Nat.eq_of_beq_eq_true h) hm
    · exact Or.inr (fin h)
theorem gw_LkX {i mid na : Nat} {z : Int32 × Nat} (hM : gc_MM l D cA ad A adV mid) (hb : Nat.blt mid 438 = true) (hc : gaCostW mid = gaCost mid) (hki : gb_ki mid = 0) (h1 : gb_lv mid + 1 ≤ 10) (h7 : na = gb_ar mid + 1) (hz : z.2 = gb_ci mid) (h9 : Cond.methodLink RL i (gb_y mid) ∈ gb_good) : gw_Row l D cA ad A adV (.invokevirtual i, mid, na, [z]) :=
  Or.inr (gk_LkV hM.1 hki h1 h7 hz h9 (fun as S σ o _ hg => by
    have h2 : (gaLaw (gw_xs adV) (adV 1999)) ga_O mid as S σ some = (bif gk_eq S gaSH then gaG ga_O mid as S σ some else none) := by unfold gaLaw; rw [hb]; rfl
    rw [h2] at hg
    obtain ⟨hS, h3⟩ := gc_bif hg
    have e := gk_eq_eq hS
    subst e
    rw [hc]
    exact hM.2.2 as σ o h3))
theorem gw_Lk_458 (hl : l.stackTraces = false) : gw_Row l D cA ad A adV (.invokestatic 96, 458, 2, []) := by
  refine Or.inr ⟨yL_type, cL_type, 5, none, 6, 2, by decide, by decide, gl_nmL, (gb_w1 0 rfl rfl), by decide +kernel, Or.inl ⟨(gb_w5 159 rfl rfl), fun as S σ o h98 h99 hg => ?_, Or.inr (Or.inl ⟨96, rfl, rfl, (gb_w5 157 rfl rfl), (gb_w5 158 rfl rfl)⟩)⟩⟩
  clear h98 h99
  have h2 : cw_L_type as S σ some = some o := hg
  clear hg
  unfold cw_L_type at h2
  split at h2
  · rename_i r0 r1
    obtain ⟨hb, k2⟩ := gc_bif h2
    obtain ⟨hb0, hb1⟩ := Bool.and_eq_true_iff.mp hb
    obtain ⟨hb1, hb2⟩ := Bool.and_eq_true_iff.mp hb1
    have e0 := Nat.eq_of_beq_eq_true hb0
    have e1 := Nat.eq_of_beq_eq_true hb1
    subst e0
    subst e1
    have e := gk_eq_eq hb2
    subst e
    obtain ⟨x, hx, k3⟩ := gc_bind k2
    have eo := Option.some.inj k3
    subst eo
    exact gl_type hl σ x hx
  · cases h2
theorem gw_Lk_457 (hl : l.stackTraces = false) : gw_Row l D cA ad A adV (.invokestatic 117, 457, 2, []) := by
  refine Or.inr ⟨yL_cell, cL_cell, 2, (some .int), 0, 2, by decide, by decide, gl_nmL, (gb_w1 0 rfl rfl), by decide +kernel, Or.inl ⟨(gb_w5 156 rfl rfl), fun as S σ o h98 h99 hg => ?_, Or.inr (Or.inl ⟨117, rfl, rfl, (gb_w5 154 rfl rfl), (gb_w5 155 rfl rfl)⟩)⟩⟩
  clear h98 h99
  have h2 : (bif gk_eq S gaSH then cw_L_cell (gw_xs adV) (adV 1999) as S σ some else none) = some o := hg
  clear hg
  obtain ⟨hS, k1⟩ := gc_bif h2
  have e := gk_eq_eq hS
  subst e
  unfold cw_L_cell at k1
  split at k1
  · rename_i r0 a
    obtain ⟨hb, k2⟩ := gc_bif k1
    have e0 := Nat.eq_of_beq_eq_true hb
    subst e0
    obtain ⟨x, hx, k3⟩ := gc_bind k2
    have eo := Option.some.inj k3
    subst eo
    exact gl_cell hl a σ x hx
  · cases k1
theorem gw_Lk_438 (hl : l.stackTraces = false) : gw_Row l D cA ad A adV (.invokestatic 128, 438, 3, []) := by
  refine Or.inr ⟨yL_cover, cL_cover, 4, some .int, 7, 3, by decide, by decide, gl_nmL, (gb_w1 0 rfl rfl), by decide +kernel, Or.inr ⟨[(0, 6, 7, 31)], (gb_w5 179 rfl rfl), fun as S σ o h98 h99 hg => ?_, 128, rfl, rfl, (gb_w5 177 rfl rfl), (gb_w5 178 rfl rfl)⟩⟩
  clear h98 h99
  have h2 : (bif gk_eq S gaSH then cw_L_cover as S σ some else none) = some o := hg
  clear hg
  obtain ⟨hS, k1⟩ := gc_bif h2
  have e := gk_eq_eq hS
  subst e
  unfold cw_L_cover at k1
  split at k1
  · rename_i r0 a b
    obtain ⟨hb, k2⟩ := gc_bif k1
    have e0 := Nat.eq_of_beq_eq_true hb
    subst e0
    obtain ⟨⟨q1, q2⟩, hq, k3⟩ := gc_bind k2
    cases q1 with
    | inl x =>
      have eo := Option.some.inj k3
      subst eo
      exact gl_438 hl a b σ x q2 hq
    | inr E => cases k3
  · cases k1
theorem gw_Lk_439 (hl : l.stackTraces = false) : gw_Row l D cA ad A adV (.invokestatic 134, 439, 3, []) := by
  refine Or.inr ⟨yL_supervise, cL_supervise, 4, some .int, 7, 3, by decide, by decide, gl_nmL, (gb_w1 0 rfl rfl), by decide +kernel, Or.inr ⟨[(0, 6, 7, 31)], (gb_w5 197 rfl rfl), fun as S σ o h98 h99 hg => ?_, 134, rfl, rfl, (gb_w5 195 rfl rfl), (gb_w5 196 rfl rfl)⟩⟩
  clear h98 h99
  have h2 : (bif gk_eq S gaSH then cw_L_supervise as S σ some else none) = some o := hg
  clear hg
  obtain ⟨hS, k1⟩ := gc_bif h2
  have e := gk_eq_eq hS
  subst e
  unfold cw_L_supervise at k1
  split at k1
  · rename_i r0 a b
    obtain ⟨hb, k2⟩ := gc_bif k1
    have e0 := Nat.eq_of_beq_eq_true hb
    subst e0
    obtain ⟨⟨q1, q2⟩, hq, k3⟩ := gc_bind k2
    cases q1 with
    | inl x =>
      have eo := Option.some.inj k3
      subst eo
      exact gl_439 hl a b σ x q2 hq
    | inr E => cases k3
  · cases k1
theorem gw_Lk_440 (hl : l.stackTraces = false) : gw_Row l D cA ad A adV (.invokestatic 136, 440, 2, []) := by
  refine Or.inr ⟨yL_repair, cL_repair, 3, some .int, 7, 2, by decide, by decide, gl_nmL, (gb_w1 0 rfl rfl), by decide +kernel, Or.inr ⟨[(0, 5, 6, 31)], (gb_w5 213 rfl rfl), fun as S σ o h98 h99 hg => ?_, 136, rfl, rfl, (gb_w5 211 rfl rfl), (gb_w5 212 rfl rfl)⟩⟩
  clear h98 h99
  have h2 : (bif gk_eq S gaSH then cw_L_repair as S σ some else none) = some o := hg
  clear hg
  obtain ⟨hS, k1⟩ := gc_bif h2
  have e := gk_eq_eq hS
  subst e
  unfold cw_L_repair at k1
  split at k1
  · rename_i r0 a
    obtain ⟨hb, k2⟩ := gc_bif k1
    have e0 := Nat.eq_of_beq_eq_true hb
    subst e0
    obtain ⟨⟨q1, q2⟩, hq, k3⟩ := gc_bind k2
    cases q1 with
    | inl x =>
      have eo := Option.some.inj k3
      subst eo
      exact gl_440 hl a σ x q2 hq
    | inr E => cases k3
  · cases k1
theorem gw_Lk_441 (hl : l.stackTraces = false) : gw_Row l D cA ad A adV (.invokestatic 145, 441, 3, []) := by
  refine Or.inr ⟨yL_exchange, cL_exchange, 4, some .int, 7, 3, by decide, by decide, gl_nmL, (gb_w1 0 rfl rfl), by decide +kernel, Or.inr ⟨[(0, 6, 7, 31)], (gb_w5 221 rfl rfl), fun as S σ o h98 h99 hg => ?_, 145, rfl, rfl, (gb_w5 219 rfl rfl), (gb_w5 220 rfl rfl)⟩⟩
  clear h98 h99
  have h2 : (bif gk_eq S gaSH then cw_L_exchange as S σ some else none) = some o := hg
  clear hg
  obtain ⟨hS, k1⟩ := gc_bif h2
  have e := gk_eq_eq hS
  subst e
  unfold cw_L_exchange at k1
  split at k1
  · rename_i r0 a b
    obtain ⟨hb, k2⟩ := gc_bif k1
    have e0 := Nat.eq_of_beq_eq_true hb
    subst e0
    obtain ⟨⟨q1, q2⟩, hq, k3⟩ := gc_bind k2
    cases q1 with
    | inl x =>
      have eo := Option.some.inj k3
      subst eo
      exact gl_441 hl a b σ x q2 hq
    | inr E => cases k3
  · cases k1
theorem gw_Lk_442 (hl : l.stackTraces = false) : gw_Row l D cA ad A adV (.invokestatic 150, 442, 3, []) := by
  refine Or.inr ⟨yL_move, cL_move, 4, some .int, 7, 3, by decide, by decide, gl_nmL, (gb_w1 0 rfl rfl), by decide +kernel, Or.inr ⟨[(0, 6, 7, 31)], (gb_w5 233 rfl rfl), fun as S σ o h98 h99 hg => ?_, 150, rfl, rfl, (gb_w5 231 rfl rfl), (gb_w5 232 rfl rfl)⟩⟩
  clear h98 h99
  have h2 : (bif gk_eq S gaSH then cw_L_move as S σ some else none) = some o := hg
  clear hg
  obtain ⟨hS, k1⟩ := gc_bif h2
  have e := gk_eq_eq hS
  subst e
  unfold cw_L_move at k1
  split at k1
  · rename_i r0 a b
    obtain ⟨hb, k2⟩ := gc_bif k1
    have e0 := Nat.eq_of_beq_eq_true hb
    subst e0
    obtain ⟨⟨q1, q2⟩, hq, k3⟩ := gc_bind k2
    cases q1 with
    | inl x =>
      have eo := Option.some.inj k3
      subst eo
      exact gl_442 hl a b σ x q2 hq
    | inr E => cases k3
  · cases k1
theorem gw_Lk_443 (hl : l.stackTraces = false) : gw_Row l D cA ad A adV (.invokestatic 155, 443, 3, []) := by
  refine Or.inr ⟨yL_setRoom, cL_setRoom, 4, some .int, 7, 3, by decide, by decide, gl_nmL, (gb_w1 0 rfl rfl), by decide +kernel, Or.inr ⟨[(0, 6, 7, 31)], (gb_w6 5 rfl rfl), fun as S σ o h98 h99 hg => ?_, 155, rfl, rfl, (gb_w6 3 rfl rfl), (gb_w6 4 rfl rfl)⟩⟩
  clear h98 h99
  have h2 : (bif gk_eq S gaSH then cw_L_setRoom as S σ some else none) = some o := hg
  clear hg
  obtain ⟨hS, k1⟩ := gc_bif h2
  have e := gk_eq_eq hS
  subst e
  unfold cw_L_setRoom at k1
  split at k1
  · rename_i r0 a b
    obtain ⟨hb, k2⟩ := gc_bif k1
    have e0 := Nat.eq_of_beq_eq_true hb
    subst e0
    obtain ⟨⟨q1, q2⟩, hq, k3⟩ := gc_bind k2
    cases q1 with
    | inl x =>
      have eo := Option.some.inj k3
      subst eo
      exact gl_443 hl a b σ x q2 hq
    | inr E => cases k3
  · cases k1
theorem gw_Lk_444 (hl : l.stackTraces = false) : gw_Row l D cA ad A adV (.invokestatic 157, 444, 2, []) := by
  refine Or.inr ⟨yL_reopen, cL_reopen, 3, some .int, 7, 2, by decide, by decide, gl_nmL, (gb_w1 0 rfl rfl), by decide +kernel, Or.inr ⟨[(0, 5, 6, 31)], (gb_w6 17 rfl rfl), fun as S σ o h98 h99 hg => ?_, 157, rfl, rfl, (gb_w6 15 rfl rfl), (gb_w6 16 rfl rfl)⟩⟩
  clear h98 h99
  have h2 : (bif gk_eq S gaSH then cw_L_reopen as S σ some else none) = some o := hg
  clear hg
  obtain ⟨hS, k1⟩ := gc_bif h2
  have e := gk_eq_eq hS
  subst e
  unfold cw_L_reopen at k1
  split at k1
  · rename_i r0 a
    obtain ⟨hb, k2⟩ := gc_bif k1
    have e0 := Nat.eq_of_beq_eq_true hb
    subst e0
    obtain ⟨⟨q1, q2⟩, hq, k3⟩ := gc_bind k2
    cases q1 with
    | inl x =>
      have eo := Option.some.inj k3
      subst eo
      exact gl_444 hl a σ x q2 hq
    | inr E => cases k3
  · cases k1
theorem gw_LkMin : gw_Row l D cA ad A adV (.invokestatic 162, 11, 2, []) := by
  obtain ⟨mx, e1, k1, k2, k3, k4⟩ := gc_Mt 11 (by decide)
  refine Or.inl ⟨mx, 162, rfl, e1 ▸ (gb_w6 70 rfl rfl), k1, k2, k3, fun as S σ o hg => ?_⟩
  have h2 : (bif gk_eq S gaSH then gaG ga_O 11 as S σ some else none) = some o := hg
  exact k4 as S σ o (gc_bif h2).2
theorem gw_Lk_459 (hl : l.stackTraces = false) : gw_Row l D cA ad A adV (.invokestatic 170, 459, 1, []) := by
  refine Or.inr ⟨yL_holds, cL_holds, 12, (some .boolean), 7, 1, by decide, by decide, gl_nmL, (gb_w1 0 rfl rfl), by decide +kernel, Or.inl ⟨(gb_w6 29 rfl rfl), fun as S σ o h98 h99 hg => ?_, Or.inr (Or.inl ⟨170, rfl, rfl, (gb_w6 27 rfl rfl), (gb_w6 28 rfl rfl)⟩)⟩⟩
  clear h98 h99
  have h2 : (bif gk_eq S gaSH then cw_L_holds as S σ some else none) = some o := hg
  clear hg
  obtain ⟨hS, k1⟩ := gc_bif h2
  have e := gk_eq_eq hS
  subst e
  unfold cw_L_holds at k1
  split at k1
  · rename_i r0
    obtain ⟨hb, k2⟩ := gc_bif k1
    have e0 := Nat.eq_of_beq_eq_true hb
    subst e0
    obtain ⟨q, hq, k3⟩ := gc_bind k2
    have eo := Option.some.inj k3
    subst eo
    exact gl_holds hl σ q hq
  · cases k1
def gw_rows : List (Instr × Nat × Nat × List (Int32 × Nat)) := [(.invokespecial 93, 456, 1, []),
  (.invokestatic 96, 458, 2, []),
  (.invokevirtual 102, 49, 1, [(0, 11)]),
  (.invokevirtual 81, 424, 2, [(0, 11)]),
  (.invokevirtual 66, 428, 3, [(0, 11)]),
  (.invokevirtual 105, 433, 2, [(0, 11)]),
  (.invokevirtual 108, 434, 3, [(0, 11)]),
  (.invokevirtual 111, 435, 3, [(0, 11)]),
  (.invokevirtual 114, 416, 3, [(0, 11)]),
  (.invokestatic 117, 457, 2, []),
  (.invokevirtual 51, 425, 3, [(0, 11)]),
  (.invokevirtual 121, 436, 2, [(0, 11)]),
  (.invokevirtual 69, 426, 3, [(0, 11)]),
  (.invokevirtual 124, 404, 4, [(0, 11)]),
  (.invokestatic 128, 438, 3, []),
  (.invokevirtual 131, 417, 3, [(0, 11)]),
  (.invokestatic 134, 439, 3, []),
  (.invokevirtual 72, 421, 2, [(0, 11)]),
  (.invokevirtual 78, 422, 3, [(0, 11)]),
  (.invokestatic 136, 440, 2, []),
  (.invokevirtual 139, 82, 1, [(0, 11)]),
  (.invokevirtual 142, 418, 3, [(0, 11)]),
  (.invokestatic 145, 441, 3, []),
  (.invokevirtual 147, 423, 2, [(0, 11)]),
  (.invokestatic 150, 442, 3, []),
  (.invokevirtual 152, 419, 3, [(0, 11)]),
  (.invokestatic 155, 443, 3, []),
  (.invokestatic 157, 444, 2, []),
  (.invokevirtual 159, 96, 1, [(0, 11)]),
  (.invokestatic 162, 11, 2, []),
  (.invokevirtual 167, 111, 1, [(0, 11)]),
  (.invokestatic 170, 459, 1, []),
  (.invokevirtual 174, 437, 1, [(0, 11)])]
set_option maxRecDepth 100000 in
theorem gw_rows_ok (hl : l.stackTraces = false) : ∀ r ∈ gw_rows, gw_Row l D cA ad A adV r := List.forall_mem_cons.mpr ⟨Or.inr (gk_LkI (lv := 8) (n := 0) (maxL := 1) (by decide) (by decide) gq_nmX11 (gb_w1 1 rfl rfl) (by decide +kernel) (gb_w1 29 rfl rfl) (fun as S σ o hg => gq_X11_init hl hg) rfl rfl (Or.inl (gb_w1 27 rfl rfl)) (gb_w1 28 rfl rfl)),
  List.forall_mem_cons.mpr ⟨gw_Lk_458 hl,
  List.forall_mem_cons.mpr ⟨gw_LkX (gm_49 hl) (by decide +kernel) rfl (by decide +kernel) (by decide +kernel) (by decide +kernel) (by decide +kernel) (gb_w2 218 rfl rfl),
  List.forall_mem_cons.mpr ⟨gw_LkX (gm_424 hl) (by decide +kernel) rfl (by decide +kernel) (by decide +kernel) (by decide +kernel) (by decide +kernel) (gb_w5 5 rfl rfl),
  List.forall_mem_cons.mpr ⟨gw_LkX (gm_428 hl) (by decide +kernel) rfl (by decide +kernel) (by decide +kernel) (by decide +kernel) (by decide +kernel) (gb_w5 59 rfl rfl),
  List.forall_mem_cons.mpr ⟨gw_LkX (gm_433 hl) (by decide +kernel) rfl (by decide +kernel) (by decide +kernel) (by decide +kernel) (by decide +kernel) (gb_w5 66 rfl rfl),
  List.forall_mem_cons.mpr ⟨gw_LkX (gm_434 hl) (by decide +kernel) rfl (by decide +kernel) (by decide +kernel) (by decide +kernel) (by decide +kernel) (gb_w5 82 rfl rfl),
  List.forall_mem_cons.mpr ⟨gw_LkX (gm_435 hl) (by decide +kernel) rfl (by decide +kernel) (by decide +kernel) (by decide +kernel) (by decide +kernel) (gb_w5 87 rfl rfl),
  List.forall_mem_cons.mpr ⟨gw_LkX (gm_416 hl) (by decide +kernel) rfl (by decide +kernel) (by decide +kernel) (by decide +kernel) (by decide +kernel) (gb_w4 136 rfl rfl),
  List.forall_mem_cons.mpr ⟨gw_Lk_457 hl,
  List.forall_mem_cons.mpr ⟨gw_LkX (gm_425 hl) (by decide +kernel) rfl (by decide +kernel) (by decide +kernel) (by decide +kernel) (by decide +kernel) (gb_w5 37 rfl rfl),
  List.forall_mem_cons.mpr ⟨gw_LkX (gm_436 hl) (by decide +kernel) rfl (by decide +kernel) (by decide +kernel) (by decide +kernel) (by decide +kernel) (gb_w5 96 rfl rfl),
  List.forall_mem_cons.mpr ⟨gw_LkX (gm_426 hl) (by decide +kernel) rfl (by decide +kernel) (by decide +kernel) (by decide +kernel) (by decide +kernel) (gb_w5 44 rfl rfl),
  List.forall_mem_cons.mpr ⟨gw_LkX (gm_404 hl) (by decide +kernel) rfl (by decide +kernel) (by decide +kernel) (by decide +kernel) (by decide +kernel) (gb_w3 175 rfl rfl),
  List.forall_mem_cons.mpr ⟨gw_Lk_438 hl,
  List.forall_mem_cons.mpr ⟨gw_LkX (gm_417 hl) (by decide +kernel) rfl (by decide +kernel) (by decide +kernel) (by decide +kernel) (by decide +kernel) (gb_w4 163 rfl rfl),
  List.forall_mem_cons.mpr ⟨gw_Lk_439 hl,
  List.forall_mem_cons.mpr ⟨gw_LkX (gm_421 hl) (by decide +kernel) rfl (by decide +kernel) (by decide +kernel) (by decide +kernel) (by decide +kernel) (gb_w4 210 rfl rfl),
  List.forall_mem_cons.mpr ⟨gw_LkX (gm_422 hl) (by decide +kernel) rfl (by decide +kernel) (by decide +kernel) (by decide +kernel) (by decide +kernel) (gb_w4 215 rfl rfl),
  List.forall_mem_cons.mpr ⟨gw_Lk_440 hl,
  List.forall_mem_cons.mpr ⟨gw_LkX (gm_82 hl) (by decide +kernel) rfl (by decide +kernel) (by decide +kernel) (by decide +kernel) (by decide +kernel) (gb_w4 46 rfl rfl),
  List.forall_mem_cons.mpr ⟨gw_LkX (gm_418 hl) (by decide +kernel) rfl (by decide +kernel) (by decide +kernel) (by decide +kernel) (by decide +kernel) (gb_w4 177 rfl rfl),
  List.forall_mem_cons.mpr ⟨gw_Lk_441 hl,
  List.forall_mem_cons.mpr ⟨gw_LkX (gm_423 hl) (by decide +kernel) rfl (by decide +kernel) (by decide +kernel) (by decide +kernel) (by decide +kernel) (gb_w4 236 rfl rfl),
  List.forall_mem_cons.mpr ⟨gw_Lk_442 hl,
  List.forall_mem_cons.mpr ⟨gw_LkX (gm_419 hl) (by decide +kernel) rfl (by decide +kernel) (by decide +kernel) (by decide +kernel) (by decide +kernel) (gb_w4 193 rfl rfl),
  List.forall_mem_cons.mpr ⟨gw_Lk_443 hl,
  List.forall_mem_cons.mpr ⟨gw_Lk_444 hl,
  List.forall_mem_cons.mpr ⟨gw_LkX (gm_96 hl) (by decide +kernel) rfl (by decide +kernel) (by decide +kernel) (by decide +kernel) (by decide +kernel) (gb_w4 119 rfl rfl),
  List.forall_mem_cons.mpr ⟨gw_LkMin,
  List.forall_mem_cons.mpr ⟨gw_LkX (gm_111 hl) (by decide +kernel) rfl (by decide +kernel) (by decide +kernel) (by decide +kernel) (by decide +kernel) (gb_w5 150 rfl rfl),
  List.forall_mem_cons.mpr ⟨gw_Lk_459 hl,
  List.forall_mem_cons.mpr ⟨gw_LkX (gm_437 hl) (by decide +kernel) rfl (by decide +kernel) (by decide +kernel) (by decide +kernel) (by decide +kernel) (gb_w5 122 rfl rfl),
  fun _ h => nomatch h⟩⟩⟩⟩⟩⟩⟩⟩⟩⟩⟩⟩⟩⟩⟩⟩⟩⟩⟩⟩⟩⟩⟩⟩⟩⟩⟩⟩⟩⟩⟩⟩⟩
theorem gw_cr0 : gw_cl0.all (gk_cr gw_rows) = true := by decide +kernel
theorem gw_nt0 : gw_cl0.all gk_nt = true := by decide +kernel
theorem gw_cr1 : gw_cl1.all (gk_cr gw_rows) = true := by decide +kernel
theorem gw_nt1 : gw_cl1.all gk_nt = true := by decide +kernel
theorem gw_cr2 : gw_cl2.all (gk_cr gw_rows) = true := by decide +kernel
theorem gw_nt2 : gw_cl2.all gk_nt = true := by decide +kernel
theorem gw_cr3 : gw_cl3.all (gk_cr gw_rows) = true := by decide +kernel
theorem gw_nt3 : gw_cl3.all gk_nt = true := by decide +kernel
theorem gw_cr4 : gw_cl4.all (gk_cr gw_rows) = true := by decide +kernel
theorem gw_nt4 : gw_cl4.all gk_nt = true := by decide +kernel
theorem gw_cr5 : gw_cl5.all (gk_cr gw_rows) = true := by decide +kernel
theorem gw_nt5 : gw_cl5.all gk_nt = true := by decide +kernel
theorem gw_cr6 : gw_cl6.all (gk_cr gw_rows) = true := by decide +kernel
theorem gw_nt6 : gw_cl6.all gk_nt = true := by decide +kernel
theorem gw_cr7 : gw_cl7.all (gk_cr gw_rows) = true := by decide +kernel
theorem gw_nt7 : gw_cl7.all gk_nt = true := by decide +kernel
theorem gw_cr8 : gw_cl8.all (gk_cr gw_rows) = true := by decide +kernel
theorem gw_nt8 : gw_cl8.all gk_nt = true := by decide +kernel
theorem gw_cr9 : gw_cl9.all (gk_cr gw_rows) = true := by decide +kernel
theorem gw_nt9 : gw_cl9.all gk_nt = true := by decide +kernel
theorem gw_cr10 : gw_cl10.all (gk_cr gw_rows) = true := by decide +kernel
theorem gw_nt10 : gw_cl10.all gk_nt = true := by decide +kernel
theorem gw_cr11 : gw_cl11.all (gk_cr gw_rows) = true := by decide +kernel
theorem gw_nt11 : gw_cl11.all gk_nt = true := by decide +kernel
theorem gw_cr12 : gw_cl12.all (gk_cr gw_rows) = true := by decide +kernel
theorem gw_nt12 : gw_cl12.all gk_nt = true := by decide +kernel
theorem gw_cr13 : gw_cl13.all (gk_cr gw_rows) = true := by decide +kernel
theorem gw_nt13 : gw_cl13.all gk_nt = true := by decide +kernel
theorem gw_cr14 : gw_cl14.all (gk_cr gw_rows) = true := by decide +kernel
theorem gw_nt14 : gw_cl14.all gk_nt = true := by decide +kernel
theorem gw_cr15 : gw_cl15.all (gk_cr gw_rows) = true := by decide +kernel
theorem gw_nt15 : gw_cl15.all gk_nt = true := by decide +kernel
theorem gw_cr16 : gw_cl16.all (gk_cr gw_rows) = true := by decide +kernel
theorem gw_nt16 : gw_cl16.all gk_nt = true := by decide +kernel
theorem gw_crA : ∀ i, (gw_chs i).all (gk_cr gw_rows) = true := fun i => match i with
  | 0 => gw_cr0
  | 1 => gw_cr1
  | 2 => gw_cr2
  | 3 => gw_cr3
  | 4 => gw_cr4
  | 5 => gw_cr5
  | 6 => gw_cr6
  | 7 => gw_cr7
  | 8 => gw_cr8
  | 9 => gw_cr9
  | 10 => gw_cr10
  | 11 => gw_cr11
  | 12 => gw_cr12
  | 13 => gw_cr13
  | 14 => gw_cr14
  | 15 => gw_cr15
  | 16 => gw_cr16
  | m + 17 => rfl
theorem gw_ntA : ∀ i, (gw_chs i).all gk_nt = true := fun i => match i with
  | 0 => gw_nt0
  | 1 => gw_nt1
  | 2 => gw_nt2
  | 3 => gw_nt3
  | 4 => gw_nt4
  | 5 => gw_nt5
  | 6 => gw_nt6
  | 7 => gw_nt7
  | 8 => gw_nt8
  | 9 => gw_nt9
  | 10 => gw_nt10
  | 11 => gw_nt11
  | 12 => gw_nt12
  | 13 => gw_nt13
  | 14 => gw_nt14
  | 15 => gw_nt15
  | 16 => gw_nt16
  | m + 17 => rfl
end GW2
end
