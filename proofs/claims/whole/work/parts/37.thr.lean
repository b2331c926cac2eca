section GB4
variable {p : Program} {l : Launch} {e : Env} {s : State} {m : MethodId} {args : Array Value} {below : List Frame} {meth : Method} {c : Code}
variable {D : va_G} {cA : Nat → ClassId} {ad : Nat → Nat} {A : Nat → Prop} {adV : Nat → Nat}
def gb_nms : List String := ["java/lang/RuntimeException", "java/lang/Exception"]
/-- the words of a throw -/
def gb_tw (own : String) (ik ic En : Nat) : Bool := (Cond.classLink own ik (gb_exn En) :: Cond.initialized (gb_exn En) :: vx_atS own ic (gb_exn En) gb_nms).all fun w => bif goodWord w then decide (w ∈ gb_good) else (vx_ot w && gb_cast.any fun q => decide (w = .castable q.1 q.2))
theorem gb_tw_at {own : String} {ik ic En : Nat} (h : gb_tw own ik ic En = true) {Ts : List Cond} (hT : ∀ w ∈ gb_good, w ∈ Ts) (hts : ∀ w ∈ Ts, w.before args s = true) (hc : ∀ q ∈ gb_cast, va_Nw (.castable q.1 q.2) s) :
    ∀ w ∈ Cond.classLink own ik (gb_exn En) :: Cond.initialized (gb_exn En) :: vx_atS own ic (gb_exn En) gb_nms, w.before args s = true ∧ vx_ot w = true := by
  intro w hw
  have h1 := List.all_eq_true.mp h w hw
  cases hg : goodWord w with
  | true =>
    rw [hg] at h1
    exact ⟨hts w (hT w (of_decide_eq_true h1)), by simp [vx_ot, hg]⟩
  | false =>
    rw [hg] at h1
    obtain ⟨h2, h3⟩ := Bool.and_eq_true_iff.mp h1
    obtain ⟨q, hq, he⟩ := List.any_eq_true.mp h3
    refine ⟨?_, h2⟩
    have := of_decide_eq_true he
    subst this
    exact va_Nw.use rfl (hc q hq)
/-- a throw's place -/
def gb_Th (own : String) (cc : ByteArray) (pc ik En : Nat) : Prop := ∃ (is ic : Nat) (w : Bool) (tx : String) (i : Nat), decode cc pc = .ok (.new ik, 3) ∧ decode cc (pc + 3) = .ok (.dup, 1) ∧
  (bif w then (decode cc (pc + 4) = .ok (.ldc_w is, 3) ∧ decode cc (pc + 7) = .ok (.invokespecial ic, 3) ∧ decode cc (pc + 10) = .ok (.athrow, 1)) else (decode cc (pc + 4) = .ok (.ldc is, 2) ∧ decode cc (pc + 6) = .ok (.invokespecial ic, 3) ∧ decode cc (pc + 9) = .ok (.athrow, 1))) ∧
  (own, is, tx, i) ∈ gb_strs ∧ gb_tw own ik ic En = true
theorem gb_fit (En : Nat) : Bundle.fit (gb_exn En) = true := by
  unfold gb_exn
  repeat' split
  all_goals decide +kernel
theorem gb_fits : ∀ n ∈ gb_nms, Bundle.fit n = true := by decide +kernel
theorem gb_thrOk {cc : ByteArray} {own : String} {Ts : List Cond} {lev mc ms : Nat} {o : ga_O} {code : Nat → Option ga_E} (hl : l.stackTraces = false) (hx : p.tables.exec = Jvm.exec) (hb : c.code = cc) (hlocks : meth.locks = false) (hout : ∀ x ∈ c.exceptionTable.toList, False)
    (hown : s.vm.findClass own = some m.cls) (hT : ∀ w ∈ gb_good, w ∈ Ts) (hts : ∀ w ∈ Ts, w.before args s = true) (hE : gb_E D cA ad A adV s s.heap) (hfull : ¬ o.2.1.length < 83)
    (hth : ∀ pc idx len r1 r2 sw, code pc = some (.new idx, len, r1, r2, sw) → 1000 ≤ r1 → gb_Th own cc pc idx (r1 - 1000)) :
    ga_ThrOk p l e (gb_rm lev mc ms) s m args below meth c (vx_MQ below (gb_Qc D cA ad A o) (gb_XC D cA ad A o) args s mc ms A) D cA ad A code 83 mc ms 0 0 (fun o' => o' = o) := by
  intro pc idx len r1 r2 sw hcode hr1 st S σ kc ks hst hkc hks hΦ H locs ls hI hsz
  have hΦ : ((Sum.inr (r1 - 1000), S, σ) : ga_O) = o := hΦ
  subst hΦ
  obtain ⟨is, ic, w, tx, i, d0, d3, hd, hstr, htw⟩ := hth pc idx len r1 r2 sw hcode hr1
  obtain ⟨hK, hs, hn, hca, hnc, hU, hN, hZ, hS, hA, had⟩ := hE
  have hw := gb_tw_at (s := s) (args := args) htw hT hts hca
  have h0 : ∀ t : State, s.vm.Alike t.vm → H.size ≤ t.heap.size → (∀ q : Nat, q < H.size → t.heap[q]? = H[q]?) → gb_XC D cA ad A (Sum.inr (r1 - 1000), S, σ) (gb_exn (r1 - 1000)) s t := fun t _ h1 h2 =>
    ⟨⟨_, rfl, rfl, hI.1.kept (fun k q hk => h2 _ (hI.1 k q hk).lt), hI.2.1, fun h => absurd h hfull⟩, Nat.le_trans hI.2.2.1.1 h1, fun q h3 h4 => by rw [h2 q (Nat.lt_of_lt_of_le h3 hI.2.2.1.1)]; exact hI.2.2.1.2.1 q h3 h4⟩
  have hsum := ga_catsum ad st
  cases w with
  | true =>
    obtain ⟨d4, d7, d10⟩ := hd
    exact vx_throwSW hx hb hl hown (gb_fit _) gb_fits (hw _ List.mem_cons_self).1 (hw _ (List.mem_cons_of_mem _ List.mem_cons_self)).1 (hs _ hstr) (fun w h => (hw w (List.mem_cons_of_mem _ (List.mem_cons_of_mem _ h))).1) (fun w h => (hw w h).2) hU hN hI.2.2.1 hsz d0 d3 d4 d7 d10 (fun x hx => (hout x hx).elim)
      (by simp [gb_rm, gb_nms]; omega) (by simp only [gb_rm, gb_nms, List.length_cons, List.length_nil]; omega) (by simp only [gb_rm]; omega) (by simp only [gb_rm]; omega) hlocks h0 hI.2.2.1.2.2 (by omega) (by omega)
  | false =>
    obtain ⟨d4, d7, d10⟩ := hd
    exact vx_throwS hx hb hl hown (gb_fit _) gb_fits (hw _ List.mem_cons_self).1 (hw _ (List.mem_cons_of_mem _ List.mem_cons_self)).1 (hs _ hstr) (fun w h => (hw w (List.mem_cons_of_mem _ (List.mem_cons_of_mem _ h))).1) (fun w h => (hw w h).2) hU hN hI.2.2.1 hsz d0 d3 d4 d7 d10 (fun x hx => (hout x hx).elim)
      (by simp [gb_rm, gb_nms]; omega) (by simp only [gb_rm, gb_nms, List.length_cons, List.length_nil]; omega) (by simp only [gb_rm]; omega) (by simp only [gb_rm]; omega) hlocks h0 hI.2.2.1.2.2 (by omega) (by omega)
end GB4
section GB5
variable {p : Program} {l : Launch} {e : Env} {s : State} {m : MethodId} {args : Array Value} {below : List Frame} {meth : Method} {c : Code}
variable {D : va_G} {cA : Nat → ClassId} {ad : Nat → Nat} {A : Nat → Prop} {adV : Nat → Nat}
/-- what a call's row rests on -/
def gb_Lk (l : Launch) (D : va_G) (cA : Nat → ClassId) (ad : Nat → Nat) (A : Nat → Prop) (adV : Nat → Nat) (g : ga_G) (cost : Nat → Nat × Nat) (PS : ga_S → ga_M → Prop) (own : String) (lev : Nat) (ins : Instr) (mid na : Nat) (sw : List (Int32 × Nat)) : Prop :=
  ∃ (y : MethodName) (bytes : ByteArray) (maxL : Nat) (ret : Option FieldType) (lv n : Nat), lv + 1 ≤ lev ∧ maxL ≤ 30 ∧ (y.cls ≠ "java/lang/invoke/MethodHandle" ∧ y.cls ≠ "java/lang/invoke/VarHandle") ∧ Cond.code y bytes maxL ret ∈ gb_good ∧ Cond.initialized y.cls ∈ gb_good ∧
    (parseMethodDescriptor y.desc).map (fun d => d.parameters.length) = some n ∧
    (∀ as S σ o, PS S σ → as.length = na → g ga_O mid as S σ some = some o → gb_C l D cA ad A adV y (gb_ws y bytes maxL ret) lv (cost mid).1 (cost mid).2 as S σ o) ∧
    ((∃ i, ins = .invokevirtual i ∧ na = n + 1 ∧ Cond.methodLink own i y ∈ gb_good ∧ Cond.instanceMethod y ∈ gb_good ∧ Cond.selects y.cls y y ∈ gb_good ∧
        ((∃ q r' T N, sw = q :: r' ∧ vwCl[q.2]? = some (y.cls, T, N)) ∨ (y.cls = "java/lang/String" ∧ ∀ as S σ o, g ga_O mid as S σ some = some o → ∃ i as', as = .ref (1000 + i) :: as' ∧ i < ga_txs.length)))
     ∨ (∃ i, ins = .invokestatic i ∧ na = n ∧ Cond.methodLink own i y ∈ gb_good ∧ Cond.static y ∈ gb_good)
     ∨ (∃ i host, ins = .invokestatic i ∧ na = n ∧ (own, i, y, host) ∈ gb_nest ∧ Cond.static y ∈ gb_good))
theorem gb_ws_in {y y2 : MethodName} {b b2 : ByteArray} {n n2 : Nat} {r r2 : Option FieldType} (h : Cond.code y2 b2 n2 r2 ∈ gb_good) : GoodIn (gb_ws y b n r) (gb_ws y2 b2 n2 r2) := by
  intro w hw
  have : w ∈ gb_good := by
    rcases List.mem_cons.mp hw with rfl | h1
    · exact h
    · exact h1
  exact ⟨List.mem_cons_of_mem _ this, good_of_word (gb_ww this)⟩
theorem gb_callOk {y0 : MethodName} {cc : ByteArray} {own : String} {maxL0 lev mc ms : Nat} {ret0 : Option FieldType} {g : ga_G} {cost : Nat → Nat × Nat} {PS : ga_S → ga_M → Prop} {code : Nat → Option ga_E} {Q : State → Prop} (hx : p.tables.exec = Jvm.exec) (hb : c.code = cc) (hml : c.maxLocals = maxL0)
    (hown : s.vm.findClass own = some m.cls) (hts : ∀ w ∈ gb_ws y0 cc maxL0 ret0, w.before args s = true) (hE : gb_E D cA ad A adV s s.heap)
    (hdec : ∀ pc ins len r1 r2 sw, code pc = some (ins, len, r1, r2, sw) → decode cc pc = .ok (ins, len) ∧ ga_chk pc ins len r1 sw = true)
    (hlk : ∀ pc ins len mid na sw, code pc = some (ins, len, mid, na, sw) → ((∃ i, ins = .invokevirtual i) ∨ (∃ i, ins = .invokestatic i) ∨ (∃ i, ins = .invokespecial i) ∧ mid ≠ 0) → (∀ as S σ, g ga_O mid as S σ some = none) ∨ gb_Lk l D cA ad A adV g cost PS own lev ins mid na sw) :
    ga_CallOk p l e (gb_rm lev mc ms) s m args below meth c Q D cA ad A code g cost 83 mc ms gb_exn 0 0 PS := by
  intro pc ins len mid na sw hcode hins as r S σ o kc ks hPS hlen hsum hg hrv hkc hks H locs ls hI hsz kk kx
  rcases hlk pc ins len mid na sw hcode hins with hdead | ⟨y, bytes, maxL, ret, lv, n, hlv, hmL, hmh, hcw, hini, hpar, hC, hkind⟩
  · rw [hdead] at hg; cases hg
  obtain ⟨hdg, hchk⟩ := hdec pc ins len mid na sw hcode
  have hM := hC as S σ o hPS hlen hg
  have hF : CallFix p m c cc maxL0 s args (gb_ws y0 cc maxL0 ret0) own := ⟨hx, hb, hml, hown, hts⟩
  have hgood : ∀ w ∈ gb_good, w.before args s = true := fun w h => hts w (List.mem_cons_of_mem _ h)
  have hPc : ∀ U : State, U.heap = H → s.WarmedH U.vm → gb_Pc D cA ad A adV as S σ (as.map (ga_v ad)).toArray U := fun U hU hW => ⟨rfl, gb_P.of hI hU, by rw [hU]; exact hE.to hW hI.2.2.1.1 hI.2.2.1.2.1⟩
  have hcat : ((r.map (ga_v ad)).map fun v => v.category).sum ≤ 8 := by
    rw [List.map_map]
    have : ((fun v : Value => v.category) ∘ ga_v ad) = fun v => v.category := funext fun v => ga_v_cat ad v
    rw [this]; exact hsum
  have hsz2 : ls.size = maxL0 := by rw [hsz, hml]
  have hroom : (gb_rm lv (cost mid).1 (cost mid).2).frames + 1 ≤ (gb_rm lev mc ms).frames ∧ 8 + (maxL + 11) + (gb_rm lv (cost mid).1 (cost mid).2).locals ≤ (gb_rm lev mc ms).locals := by
    simp only [gb_rm]; omega
  have hf : 0 + kc + (cost mid).1 ≤ (gb_rm lev mc ms).cells ∧ 0 + ks + (cost mid).2 ≤ (gb_rm lev mc ms).slots := by
    simp only [gb_rm]; omega
  rcases hkind with ⟨i, rfl, hna, hlkw, hinst, hsel, hrc⟩ | ⟨i, rfl, hna, hlkw, hst⟩ | ⟨i, host, rfl, hna, hlkw, hst⟩
  · have hlen3 : len = 3 := by simpa [ga_chk] using hchk
    subst hlen3
    have hcb := callB_of (own := own) (index := i) (R := gb_rm lev mc ms) n hts (gb_ws_in (y := y0) (b := cc) (n := maxL0) (r := ret0) hcw) rfl rfl rfl (hgood _ hini) (hgood _ hlkw) ⟨hmh.1, hmh.2, hpar⟩ hroom
    have hcW : CallW (gb_rm lev mc ms) s args own y.cls i y bytes maxL ret (gb_ws y bytes maxL ret) (gb_rm lv (cost mid).1 (cost mid).2) (cost mid).1 (cost mid).2 n := ⟨hcb, hgood _ hinst, hgood _ hsel⟩
    have hrec : ∃ n0 as', as = .ref n0 :: as' ∧ ∃ cellB : Cell, H[ad n0]? = some cellB ∧ cellB.vm.isStatics = false ∧ s.vm.findClass y.cls = some cellB.cls := by
      rcases hrc with ⟨q, r', T, N, hsw, hcl⟩ | ⟨hcls, hw⟩
      · obtain ⟨n0, fs, as', h1, h2⟩ := hrv i q r' rfl hsw
        exact ⟨n0, as', h1, va_recv (hE.1) hI.1 hcl (ga_w_at h2)⟩
      · obtain ⟨i0, as', h1, h2⟩ := hw as S σ o hg
        refine ⟨1000 + i0, as', h1, ?_⟩
        have hS := hE.2.2.2.2.2.2.2.2.1
        have := (hS.to (Vm.Alike.refl s.vm) hI.2.2.1.2.1) i0 h2
        rw [hcls]
        obtain ⟨cell, h3, h4, h5, -⟩ := this.1
        exact ⟨cell, h3, h4, h5⟩
    obtain ⟨n0, as', has, hcell⟩ := hrec
    subst has
    have hrun := vx_runV (e := e) (meth := meth) (below := below) (g := F0 m pc ls ((((Value.ref n0 :: as').reverse ++ r)).map (ga_v ad))) (rest := r.map (ga_v ad)) (As := as'.map (ga_v ad)) (b := ad n0) (H := H) (locs := locs) (cells := 0 + kc) (slots := 0 + ks) hF hM hcW ⟨gb_blind, hcell, hPc⟩ rfl
      (by have : (as'.map (ga_v ad)).length = as'.length := List.length_map ..
          have h2 : as'.length + 1 = na := hlen
          omega) hsz2 (by simp [List.map_append, List.map_reverse, ga_v]) (by simpa [F0, JFrame.monitorRoom] using hcat) hdg hf
    exact gb_done hrun hI.2.2.1 (fun v hv H1 locs1 hI1 => by simpa [Nat.add_assoc] using kk v hv H1 locs1 hI1) (fun E hE1 H1 locs1 q ce h1 h2 h3 h4 => by simpa [Nat.add_assoc] using kx E hE1 H1 locs1 q ce h1 h2 h3 h4)
  · have hlen3 : len = 3 := by simpa [ga_chk] using hchk
    subst hlen3
    have hcb := callB_of (own := own) (index := i) (R := gb_rm lev mc ms) n hts (gb_ws_in (y := y0) (b := cc) (n := maxL0) (r := ret0) hcw) rfl rfl rfl (hgood _ hini) (hgood _ hlkw) ⟨hmh.1, hmh.2, hpar⟩ hroom
    have hrun := vx_runS (e := e) (meth := meth) (below := below) (g := F0 m pc ls ((as.reverse ++ r).map (ga_v ad))) (rest := r.map (ga_v ad)) (As := as.map (ga_v ad)) (H := H) (locs := locs) (cells := 0 + kc) (slots := 0 + ks) hF hM ⟨hcb, hgood _ hst⟩ ⟨gb_blind, hPc⟩ rfl
      (by have : (as.map (ga_v ad)).length = as.length := List.length_map ..
          omega) hsz2 (by simp [List.map_append, List.map_reverse]) (by simpa [F0, JFrame.monitorRoom] using hcat) hdg hf
    exact gb_done hrun hI.2.2.1 (fun v hv H1 locs1 hI1 => by simpa [Nat.add_assoc] using kk v hv H1 locs1 hI1) (fun E hE1 H1 locs1 q ce h1 h2 h3 h4 => by simpa [Nat.add_assoc] using kx E hE1 H1 locs1 q ce h1 h2 h3 h4)
  · have hlen3 : len = 3 := by simpa [ga_chk] using hchk
    subst hlen3
    have hcn := va_cnB (own := own) (host := host) (index := i) (R := gb_rm lev mc ms) n hts (gb_ws_in (y := y0) (b := cc) (n := maxL0) (r := ret0) hcw) rfl rfl rfl (hE.2.2.1 _ hlkw) (hgood _ hini) ⟨hmh.1, hmh.2, hpar⟩ hroom
    have hrun := vx_runSN (e := e) (meth := meth) (below := below) (g := F0 m pc ls ((as.reverse ++ r).map (ga_v ad))) (rest := r.map (ga_v ad)) (As := as.map (ga_v ad)) (H := H) (locs := locs) (cells := 0 + kc) (slots := 0 + ks) hF hM ⟨hcn, hgood _ hst, trivial⟩ ⟨gb_blind, hPc⟩ rfl
      (by have : (as.map (ga_v ad)).length = as.length := List.length_map ..
          omega) hsz2 (by simp [List.map_append, List.map_reverse]) (by simpa [F0, JFrame.monitorRoom] using hcat) hdg hf
    exact gb_done hrun hI.2.2.1 (fun v hv H1 locs1 hI1 => by simpa [Nat.add_assoc] using kk v hv H1 locs1 hI1) (fun E hE1 H1 locs1 q ce h1 h2 h3 h4 => by simpa [Nat.add_assoc] using kx E hE1 H1 locs1 q ce h1 h2 h3 h4)
end GB5
