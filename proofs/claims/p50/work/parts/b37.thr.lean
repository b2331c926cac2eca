section GB4
variable {p : Program} {l : Launch} {e : Env} {s : State} {m : MethodId} {args : Array Value} {below : List Frame} {meth : Method} {c : Code}
variable {D : va_G} {cA : Nat → ClassId} {ad : Nat → Nat} {A : Nat → Prop} {adV : Nat → Nat}
def gb_nms : List String := ["java/lang/RuntimeException", "java/lang/Exception"]
/-- the words of a throw -/
def gb_rx : ByteArray := prog_30_method_4_code
def gb_at (own : String) (ic En : Nat) : List Cond := match Nat.beq En 4 with
  | true => gx_atS own ic (gb_exn En) 13 gb_rx gb_nms
  | false => vx_atS own ic (gb_exn En) gb_nms
def gb_tl (own : String) (ik ic En : Nat) : List Cond := Cond.classLink own ik (gb_exn En) :: Cond.initialized (gb_exn En) :: gb_at own ic En
def gb_tw (own : String) (ik ic En : Nat) : Prop := ∀ w ∈ gb_tl own ik ic En, w ∈ gb_good ∨ (vx_ot w = true ∧ w ∈ gb_oth)
theorem gb_tw_at {own : String} {ik ic En : Nat} (h : gb_tw own ik ic En) {Ts : List Cond} (hT : ∀ w ∈ gb_good, w ∈ Ts) (hts : ∀ w ∈ Ts, w.before args s = true) (hc : ∀ w ∈ gb_oth, va_Nw w s) :
    ∀ w ∈ gb_tl own ik ic En, w.before args s = true ∧ vx_ot w = true := by
  intro w hw
  rcases h w hw with h1 | ⟨h1, h2⟩
  · exact ⟨hts w (hT w h1), by simp [vx_ot, gb_ww h1]⟩
  · refine ⟨?_, h1⟩
    have h3 := hc w h2
    rcases List.mem_append.mp h2 with h4 | h4
    · obtain ⟨q, -, rfl⟩ := List.mem_map.mp h4
      exact va_Nw.use rfl h3
    · obtain ⟨q, -, rfl⟩ := List.mem_map.mp h4
      exact va_Nw.use rfl h3
def gb_zip : List Cond → List Nat → Bool
  | [], [] => true
  | w :: ws, i :: is => (bif goodWord w then decide (lw_tbl[i]? = some w) else (vx_ot w && decide (w ∈ gb_oth))) && gb_zip ws is
  | _, _ => false
theorem gb_zip_at : ∀ {ws : List Cond} {is : List Nat}, gb_zip ws is = true → ∀ w ∈ ws, w ∈ gb_good ∨ (vx_ot w = true ∧ w ∈ gb_oth)
  | [], [], _, w, hw => nomatch hw
  | v :: ws, i :: is, h, w, hw => by
    unfold gb_zip at h
    obtain ⟨h1, h2⟩ := Bool.and_eq_true_iff.mp h
    rcases List.mem_cons.mp hw with rfl | hw
    · cases hg : goodWord w with
      | true =>
        rw [hg] at h1
        exact Or.inl (gb_w i (of_decide_eq_true h1) hg)
      | false =>
        rw [hg] at h1
        obtain ⟨h3, h4⟩ := Bool.and_eq_true_iff.mp h1
        exact Or.inr ⟨h3, of_decide_eq_true h4⟩
    · exact gb_zip_at h2 w hw
  | [], _ :: _, h, _, _ => by cases h
  | _ :: _, [], h, _, _ => by cases h
/-- a throw's place -/
def gb_Th (own : String) (cc : ByteArray) (pc ik En : Nat) : Prop := ∃ (is ic : Nat) (w : Bool) (tx : String) (i : Nat), decode cc pc = .ok (.new ik, 3) ∧ decode cc (pc + 3) = .ok (.dup, 1) ∧
  (bif w then (decode cc (pc + 4) = .ok (.ldc_w is, 3) ∧ decode cc (pc + 7) = .ok (.invokespecial ic, 3) ∧ decode cc (pc + 10) = .ok (.athrow, 1)) else (decode cc (pc + 4) = .ok (.ldc is, 2) ∧ decode cc (pc + 6) = .ok (.invokespecial ic, 3) ∧ decode cc (pc + 9) = .ok (.athrow, 1))) ∧
  (own, is, tx, i) ∈ gb_strs ∧ gb_tw own ik ic En ∧ (En = 4 → w = true)
theorem gb_fit (En : Nat) : Bundle.fit (gb_exn En) = true := by
  unfold gb_exn
  repeat' split
  all_goals decide +kernel
theorem gb_fits : ∀ n ∈ gb_nms, Bundle.fit n = true := by decide +kernel
theorem gb_thrOk {cc : ByteArray} {own : String} {Ts : List Cond} {lev mc ms : Nat} {o : ga_O} {code : Nat → Option ga_E} (hl : l.stackTraces = false) (hx : p.tables.exec = Jvm.exec) (hb : c.code = cc) (hlocks : meth.locks = false) (hout : ∀ x ∈ c.exceptionTable.toList, False)
    (hown : s.vm.findClass own = some m.cls) (hT : ∀ w ∈ gb_good, w ∈ Ts) (hts : ∀ w ∈ Ts, w.before args s = true) (hE : gb_E D cA ad A adV s s.heap) (hfull : ∀ E, o.1 = .inr E → ¬ o.2.1.length < 84)
    (hth : ∀ pc idx len r1 r2 sw, code pc = some (.new idx, len, r1, r2, sw) → 1000 ≤ r1 → gb_Th own cc pc idx (r1 - 1000)) (hlev : ∀ pc idx len r1 r2 sw, code pc = some (.new idx, len, r1, r2, sw) → 5 ≤ lev) :
    ga_ThrOk p l e (gb_rm lev mc ms) s m args below meth c (vx_MQ below (gb_Qc D cA ad A o) (gb_XC D cA ad A o) args s mc ms A) D cA ad A code 84 mc ms 0 0 (fun o' => o' = o) := by
  intro pc idx len r1 r2 sw hcode hr1 st S σ kc ks hst hkc hks hΦ H locs ls hI hsz
  have hΦ : ((Sum.inr (r1 - 1000), S, σ) : ga_O) = o := hΦ
  subst hΦ
  have hfull := hfull _ rfl
  obtain ⟨is, ic, w, tx, i, d0, d3, hd, hstr, htw, hw4⟩ := hth pc idx len r1 r2 sw hcode hr1
  obtain ⟨hK, hs, hn, hca, hnc, hU, hN, hZ, hS, hA, had⟩ := hE
  have hw := gb_tw_at (s := s) (args := args) htw hT hts hca
  have h0 : ∀ t : State, s.vm.Alike t.vm → H.size ≤ t.heap.size → (∀ q : Nat, q < H.size → t.heap[q]? = H[q]?) → gb_XC D cA ad A (Sum.inr (r1 - 1000), S, σ) (gb_exn (r1 - 1000)) s t := fun t _ h1 h2 =>
    ⟨⟨_, rfl, rfl, hI.1.kept (fun k q hk => h2 _ (hI.1 k q hk).lt), hI.2.1, fun h => absurd h hfull⟩, Nat.le_trans hI.2.2.1.1 h1, fun q h3 h4 => by rw [h2 q (Nat.lt_of_lt_of_le h3 hI.2.2.1.1)]; exact hI.2.2.1.2.1 q h3 h4⟩
  have hsum := ga_catsum ad st
  have hl5 := hlev pc idx len r1 r2 sw hcode
  clear hth hcode hlev
  have k5 : vk_R own is tx (ad (1000 + i)) s := hs (own, is, tx, i) hstr
  have h0 := h0
  generalize r1 - 1000 = En at hfull h0 hw htw hw4
  by_cases h4 : En = 4
  · have hwt := hw4 h4
    subst hwt
    obtain ⟨d4, d7, d10⟩ := hd
    have hw : ∀ w ∈ Cond.classLink own idx (gb_exn En) :: Cond.initialized (gb_exn En) :: gx_atS own ic (gb_exn En) 13 gb_rx gb_nms, w.before args s = true ∧ vx_ot w = true := by
      have h9 := hw
      unfold gb_tl gb_at at h9
      rw [h4] at h9 ⊢
      exact h9
    have k1 : (Cond.classLink own idx (gb_exn En)).before args s = true := (hw _ List.mem_cons_self).1
    have k2 : (Cond.initialized (gb_exn En)).before args s = true := (hw _ (List.mem_cons_of_mem _ List.mem_cons_self)).1
    have k3 : ∀ w ∈ gx_atS own ic (gb_exn En) 13 gb_rx gb_nms, w.before args s = true := fun w h => (hw w (List.mem_cons_of_mem _ (List.mem_cons_of_mem _ h))).1
    have k4 := fun w h => (hw w h).2
    refine gx_makeSW (cls := gb_exn En) (names := gb_nms) hx hb hl (rx := gb_rx) (ix := 13) (by decide +kernel) (by decide +kernel) (by decide +kernel) (by decide +kernel) hown (gb_fit _) gb_fits k1 k2 k5 k3 k4 hU hN hI.2.2.1 hsz d0 d3 d4 d7
      (show 2 + 3 < 1 + lev by omega) (show _ + (13 * (2 + 1) + 43) ≤ 30 + 33 * lev by omega) (show 0 + kc + 1 ≤ mc by omega) (show 0 + ks + 6 ≤ ms by omega) (fun q H1 ce h1 h2 h3 h5 h6 h7 => ?_)
    exact gx_athrow hx hb d10 (vx_out (fun x hx => (hout x hx).elim) hlocks h3 h5 h6 (fun t ht hal => h0 t hal (by rw [ht]; exact h1) (fun q hq => by rw [ht]; exact h2 q hq)) h7.2.2 (by omega) (by omega))
  have hw : ∀ w ∈ Cond.classLink own idx (gb_exn En) :: Cond.initialized (gb_exn En) :: vx_atS own ic (gb_exn En) gb_nms, w.before args s = true ∧ vx_ot w = true := by
    have h9 := hw
    unfold gb_tl gb_at at h9
    have hb4 : Nat.beq En 4 = false := by
      cases hb : Nat.beq En 4 with
      | false => rfl
      | true => exact absurd (Nat.eq_of_beq_eq_true hb) h4
    rw [hb4] at h9
    exact h9
  have k1 : (Cond.classLink own idx (gb_exn En)).before args s = true := (hw _ List.mem_cons_self).1
  have k2 : (Cond.initialized (gb_exn En)).before args s = true := (hw _ (List.mem_cons_of_mem _ List.mem_cons_self)).1
  have k3 : ∀ w ∈ vx_atS own ic (gb_exn En) gb_nms, w.before args s = true := fun w h => (hw w (List.mem_cons_of_mem _ (List.mem_cons_of_mem _ h))).1
  have k4 := fun w h => (hw w h).2
  cases w with
  | true =>
    obtain ⟨d4, d7, d10⟩ := hd
    exact vx_throwSW (cls := gb_exn En) (names := gb_nms) hx hb hl hown (gb_fit _) gb_fits k1 k2 k5 k3 k4 hU hN hI.2.2.1 hsz d0 d3 d4 d7 d10 (fun x hx => (hout x hx).elim)
      (show 2 + 3 < 1 + lev by omega) (show _ + (13 * (2 + 1) + 43) ≤ 30 + 33 * lev by omega) (show 0 + kc + 1 ≤ mc by omega) (show 0 + ks + 6 ≤ ms by omega) hlocks h0 hI.2.2.1.2.2 (by omega) (by omega)
  | false =>
    obtain ⟨d4, d7, d10⟩ := hd
    exact vx_throwS (cls := gb_exn En) (names := gb_nms) hx hb hl hown (gb_fit _) gb_fits k1 k2 k5 k3 k4 hU hN hI.2.2.1 hsz d0 d3 d4 d7 d10 (fun x hx => (hout x hx).elim)
      (show 2 + 3 < 1 + lev by omega) (show _ + (13 * (2 + 1) + 43) ≤ 30 + 33 * lev by omega) (show 0 + kc + 1 ≤ mc by omega) (show 0 + ks + 6 ≤ ms by omega) hlocks h0 hI.2.2.1.2.2 (by omega) (by omega)
end GB4
section GB5
variable {p : Program} {l : Launch} {e : Env} {s : State} {m : MethodId} {args : Array Value} {below : List Frame} {meth : Method} {c : Code}
variable {D : va_G} {cA : Nat → ClassId} {ad : Nat → Nat} {A : Nat → Prop} {adV : Nat → Nat}
def gb_wsW (y : MethodName) (cc : ByteArray) (maxL : Nat) (ret : Option FieldType) (hh : List (Nat × Nat × Nat × Nat)) : List Cond := .codeWith y cc maxL ret hh :: gb_good
/-- a call of Math.max, Math.min -/
def gb_LkM (g : ga_G) (own : String) (ins : Instr) (mid na : Nat) : Prop := ∃ (mx : Bool) (i : Nat), ins = .invokestatic i ∧ Cond.methodLink own i (bif mx then Lib.Math.max.name else Lib.Math.min.name) ∈ gb_good ∧ Cond.static (bif mx then Lib.Math.max.name else Lib.Math.min.name) ∈ gb_good ∧ Cond.initialized "java/lang/Math" ∈ gb_good ∧
  Cond.code (bif mx then Lib.Math.max.name else Lib.Math.min.name) (bif mx then Lib.Math.max.code else Lib.Math.min.code) 2 (some .int) ∈ gb_good ∧ ∀ as S σ o, g ga_O mid as S σ some = some o → ∃ x y : Int32, as = [.int x, .int y] ∧ o = (.inl (some (.int (bif mx then (if x < y then y else x) else (if y < x then y else x)))), S, σ)
/-- what a call's row rests on -/
def gb_Lk (l : Launch) (D : va_G) (cA : Nat → ClassId) (ad : Nat → Nat) (A : Nat → Prop) (adV : Nat → Nat) (g : ga_G) (cost : Nat → Nat × Nat) (PS : ga_S → ga_M → Prop) (own : String) (lev : Nat) (ins : Instr) (mid na : Nat) (sw : List (Int32 × Nat)) : Prop :=
  ∃ (y : MethodName) (bytes : ByteArray) (maxL : Nat) (ret : Option FieldType) (lv n : Nat), lv + 1 ≤ lev ∧ maxL ≤ 14 ∧ (y.cls ≠ "java/lang/invoke/MethodHandle" ∧ y.cls ≠ "java/lang/invoke/VarHandle") ∧ Cond.initialized y.cls ∈ gb_good ∧
    (parseMethodDescriptor y.desc).map (fun d => d.parameters.length) = some n ∧
    ((Cond.code y bytes maxL ret ∈ gb_good ∧
      (∀ as S σ o, PS S σ → as.length = na → g ga_O mid as S σ some = some o → gb_C l D cA ad A adV y (gb_ws y bytes maxL ret) lv (cost mid).1 (cost mid).2 as S σ o) ∧
      ((∃ i, ins = .invokevirtual i ∧ na = n + 1 ∧ Cond.methodLink own i y ∈ gb_good ∧ Cond.instanceMethod y ∈ gb_good ∧ Cond.selects y.cls y y ∈ gb_good ∧
          ((∃ q r' T N, sw = q :: r' ∧ vwCl[q.2]? = some (y.cls, T, N)) ∨ (y.cls = "java/lang/String" ∧ ∀ as S σ o, g ga_O mid as S σ some = some o → ∃ i as', as = .ref (1000 + i) :: as' ∧ i < ga_txs.length)))
       ∨ (∃ i, ins = .invokestatic i ∧ na = n ∧ Cond.methodLink own i y ∈ gb_good ∧ Cond.static y ∈ gb_good)
       ∨ (∃ i host, ins = .invokestatic i ∧ na = n ∧ (own, i, y, host) ∈ gb_nest ∧ Cond.static y ∈ gb_good)
       ∨ (∃ i, ins = .invokespecial i ∧ na = n + 1 ∧ y.name = "<init>" ∧ ret = none ∧ Cond.methodLink own i y ∈ gb_good ∧ Cond.instanceMethod y ∈ gb_good ∧ ∀ as S σ o, g ga_O mid as S σ some = some o → ∃ b as', as = .ref b :: as')
       ∨ (∃ i host, ins = .invokespecial i ∧ na = n + 1 ∧ y.name = "<init>" ∧ ret = none ∧ (own, i, y, host) ∈ gb_nest ∧ Cond.instanceMethod y ∈ gb_good ∧ ∀ as S σ o, g ga_O mid as S σ some = some o → ∃ b as', as = .ref b :: as')))
     ∨ (∃ hh, Cond.codeWith y bytes maxL ret hh ∈ gb_good ∧
      (∀ as S σ o, PS S σ → as.length = na → g ga_O mid as S σ some = some o → gb_C l D cA ad A adV y (gb_wsW y bytes maxL ret hh) lv (cost mid).1 (cost mid).2 as S σ o) ∧
      ∃ i, ins = .invokestatic i ∧ na = n ∧ Cond.methodLink own i y ∈ gb_good ∧ Cond.static y ∈ gb_good))
theorem gb_ws_in {Ts : List Cond} (hT : ∀ w ∈ gb_good, w ∈ Ts) {y2 : MethodName} {b2 : ByteArray} {n2 : Nat} {r2 : Option FieldType} (h : Cond.code y2 b2 n2 r2 ∈ gb_good) : GoodIn Ts (gb_ws y2 b2 n2 r2) := by
  intro w hw
  have : w ∈ gb_good := by
    rcases List.mem_cons.mp hw with rfl | h1
    · exact h
    · exact h1
  exact ⟨hT _ this, good_of_word (gb_ww this)⟩
theorem gb_wsW_in {Ts : List Cond} (hT : ∀ w ∈ gb_good, w ∈ Ts) {y2 : MethodName} {b2 : ByteArray} {n2 : Nat} {r2 : Option FieldType} {hh : List (Nat × Nat × Nat × Nat)} (h : Cond.codeWith y2 b2 n2 r2 hh ∈ gb_good) : GoodIn Ts (gb_wsW y2 b2 n2 r2 hh) := by
  intro w hw
  have : w ∈ gb_good := by
    rcases List.mem_cons.mp hw with rfl | h1
    · exact h
    · exact h1
  exact ⟨hT _ this, good_of_word (gb_ww this)⟩
theorem gb_callOk {R : Room} {Ts : List Cond} {cc : ByteArray} {own : String} {maxL0 lev mc ms : Nat} {g : ga_G} {cost : Nat → Nat × Nat} {PS : ga_S → ga_M → Prop} {code : Nat → Option ga_E} {Q : State → Prop} (hR1 : 1 + lev ≤ R.frames) (hR2 : 30 + 33 * lev ≤ R.locals) (hR3 : mc ≤ R.cells) (hR4 : ms ≤ R.slots)
    (hx : p.tables.exec = Jvm.exec) (hb : c.code = cc) (hml : c.maxLocals = maxL0)
    (hown : s.vm.findClass own = some m.cls) (hT : ∀ w ∈ gb_good, w ∈ Ts) (hts : ∀ w ∈ Ts, w.before args s = true) (hE : gb_E D cA ad A adV s s.heap)
    (hdec : ∀ pc ins len r1 r2 sw, code pc = some (ins, len, r1, r2, sw) → decode cc pc = .ok (ins, len) ∧ ga_chk pc ins len r1 sw = true)
    (hlk : ∀ pc ins len mid na sw, code pc = some (ins, len, mid, na, sw) → ((∃ i, ins = .invokevirtual i) ∨ (∃ i, ins = .invokestatic i) ∨ (∃ i, ins = .invokespecial i) ∧ mid ≠ 0) → (∀ as S σ, g ga_O mid as S σ some = none) ∨ gb_LkM g own ins mid na ∨ gb_Lk l D cA ad A adV g cost PS own lev ins mid na sw) :
    ga_CallOk p l e R s m args below meth c Q D cA ad A code g cost 84 mc ms gb_exn 0 0 PS := by
  intro pc ins len mid na sw hcode hins as r S σ o kc ks hPS hlen hsum hg hrv hkc hks H locs ls hI hsz kk kx
  rcases hlk pc ins len mid na sw hcode hins with hdead | ⟨mx, i, rfl, hlkw, hst, hini, hcw, hgm⟩ | ⟨y, bytes, maxL, ret, lv, n, hlv, hmL, hmh, hini, hpar, hk⟩
  · rw [hdead] at hg; cases hg
  · obtain ⟨x, y, rfl, rfl⟩ := hgm as S σ o hg
    obtain ⟨hdg, hchk⟩ := hdec pc _ len mid na sw hcode
    have hlen3 : len = 3 := by simpa [ga_chk] using hchk
    subst hlen3
    have hgood : ∀ w ∈ gb_good, w.before args s = true := fun w h => hts w (hT w h)
    have hcat : ((r.map (ga_v ad)).map fun v => v.category).sum ≤ 8 := by
      rw [List.map_map]
      have : ((fun v : Value => v.category) ∘ ga_v ad) = fun v => v.category := funext fun v => ga_v_cat ad v
      rw [this]; exact hsum
    have hW := kk _ rfl H locs hI
    have hW2 : W p l e R s m args below meth c H locs (0 + kc) (0 + ks) Q (F0 m (pc + 3) ls (.int (bif mx then (if x < y then y else x) else (if y < x then y else x)) :: r.map (ga_v ad))) := W.widen (by omega) (by omega) hW
    cases mx with
    | true => exact va_mmax hx hb hsz.symm hown (hgood _ hlkw) (hgood _ hst) (hgood _ hini) (hgood _ hcw) (by omega) (Nat.le_trans (Nat.add_le_add_right hcat 13) (by omega)) (by omega) (by omega) hdg hW2
    | false => exact va_mmin hx hb hsz.symm hown (hgood _ hlkw) (hgood _ hst) (hgood _ hini) (hgood _ hcw) (by omega) (Nat.le_trans (Nat.add_le_add_right hcat 13) (by omega)) (by omega) (by omega) hdg hW2
  obtain ⟨hdg, hchk⟩ := hdec pc ins len mid na sw hcode
  have hF : CallFix p m c cc maxL0 s args Ts own := ⟨hx, hb, hml, hown, hts⟩
  have hgood : ∀ w ∈ gb_good, w.before args s = true := fun w h => hts w (hT w h)
  have hPc : ∀ U : State, U.heap = H → s.WarmedH U.vm → gb_Pc D cA ad A adV as S σ (as.map (ga_v ad)).toArray U := fun U hU hW => ⟨rfl, gb_P.of hI hU, by rw [hU]; exact hE.to hW hI.2.2.1.1 hI.2.2.1.2.1⟩
  have hcat : ((r.map (ga_v ad)).map fun v => v.category).sum ≤ 8 := by
    rw [List.map_map]
    have : ((fun v : Value => v.category) ∘ ga_v ad) = fun v => v.category := funext fun v => ga_v_cat ad v
    rw [this]; exact hsum
  have hsz2 : ls.size = maxL0 := by rw [hsz, hml]
  have hroom : (gb_rm lv (cost mid).1 (cost mid).2).frames + 1 ≤ R.frames ∧ 8 + (maxL + 11) + (gb_rm lv (cost mid).1 (cost mid).2).locals ≤ R.locals := by
    simp only [gb_rm]; omega
  have hf : 0 + kc + (cost mid).1 ≤ R.cells ∧ 0 + ks + (cost mid).2 ≤ R.slots := by
    omega
  have hlen3 : len = 3 := by
    rcases hins with ⟨i, rfl⟩ | ⟨i, rfl⟩ | ⟨⟨i, rfl⟩, -⟩ <;> simpa [ga_chk] using hchk
  subst hlen3
  have hS9 := hI.2.2.1
  have hkk : ∀ v, o.1 = .inl v → ∀ (H1 : Heap) (locs1 : List Loc), ga_I D cA A s.heap ad 84 o.2.1 o.2.2 H1 locs1 → W p l e R s m args below meth c H1 locs1 (0 + kc + (cost mid).1) (0 + ks + (cost mid).2) Q (F0 m (pc + 3) ls ((v.toList ++ r).map (ga_v ad))) := fun v hv H1 locs1 hI1 => by simpa [Nat.add_assoc] using kk v hv H1 locs1 hI1
  have hkx : ∀ E, o.1 = .inr E → ∀ (H1 : Heap) (locs1 : List Loc) (q : Addr) (ce : Cell), ga_I D cA A s.heap ad 84 o.2.1 o.2.2 H1 locs1 → H1[q]? = some ce → ce.vm = .none → s.vm.findClass (gb_exn E) = some ce.cls → vx_W p l e R s m args below meth c H1 locs1 (0 + kc + (cost mid).1) (0 + ks + (cost mid).2) Q (F0 m pc ls (r.map (ga_v ad))) q := fun E hE1 H1 locs1 q ce h1 h2 h3 h4 => by simpa [Nat.add_assoc] using kx E hE1 H1 locs1 q ce h1 h2 h3 h4
  rcases hk with ⟨hcw, hC, hkind⟩ | ⟨hh, hcw, hC, i, rfl, hna, hlkw, hst⟩
  · have hM := hC as S σ o hPS hlen hg
    rcases hkind with ⟨i, rfl, hna, hlkw, hinst, hsel, hrc⟩ | ⟨i, rfl, hna, hlkw, hst⟩ | ⟨i, host, rfl, hna, hlkw, hst⟩ | ⟨i, rfl, hna, hnm, rfl, hlkw, hinst, hrc⟩ | ⟨i, host, rfl, hna, hnm, rfl, hlkw, hinst, hrc⟩
    · have hcb := callB_of (own := own) (index := i) (R := R) n hts (gb_ws_in hT hcw) rfl rfl rfl (hgood _ hini) (hgood _ hlkw) ⟨hmh.1, hmh.2, hpar⟩ hroom
      have hcW : CallW R s args own y.cls i y bytes maxL ret (gb_ws y bytes maxL ret) (gb_rm lv (cost mid).1 (cost mid).2) (cost mid).1 (cost mid).2 n := ⟨hcb, hgood _ hinst, hgood _ hsel⟩
      have hrec : ∃ n0 as', as = .ref n0 :: as' ∧ ∃ cellB : Cell, H[ad n0]? = some cellB ∧ cellB.vm.isStatics = false ∧ s.vm.findClass y.cls = some cellB.cls := by
        rcases hrc with ⟨q, r', T, N, hsw, hcl⟩ | ⟨hcls, hw⟩
        · obtain ⟨n0, fs, as', h1, h2⟩ := hrv i q r' rfl hsw
          exact ⟨n0, as', h1, va_recv (hE.1) hI.1 hcl (ga_w_at h2)⟩
        · obtain ⟨i0, as', h1, h2⟩ := hw as S σ o hg
          refine ⟨1000 + i0, as', h1, ?_⟩
          have hS := hE.2.2.2.2.2.2.2.2.1
          have := (hS.to (Vm.Alike.refl s.vm) hI.2.2.1.2.1) i0 h2
          rw [hcls]
          obtain ⟨cell, h3, h4, h5, -⟩ := this.1
          exact ⟨cell, h3, h4, h5⟩
      obtain ⟨n0, as', has, hcell⟩ := hrec
      subst has
      have hrun := vx_runV (e := e) (meth := meth) (below := below) (g := F0 m pc ls ((((Value.ref n0 :: as').reverse ++ r)).map (ga_v ad))) (rest := r.map (ga_v ad)) (As := as'.map (ga_v ad)) (b := ad n0) (H := H) (locs := locs) (cells := 0 + kc) (slots := 0 + ks) hF hM hcW ⟨gb_blind, hcell, hPc⟩ rfl
        (by have : (as'.map (ga_v ad)).length = as'.length := List.length_map ..
            have h2 : as'.length + 1 = na := hlen
            omega) hsz2 (by simp [List.map_append, List.map_reverse, ga_v]) (by simpa [F0, JFrame.monitorRoom] using hcat) hdg hf
      exact gb_done hrun hS9 hkk hkx
    · have hcb := callB_of (own := own) (index := i) (R := R) n hts (gb_ws_in hT hcw) rfl rfl rfl (hgood _ hini) (hgood _ hlkw) ⟨hmh.1, hmh.2, hpar⟩ hroom
      have hrun := vx_runS (e := e) (meth := meth) (below := below) (g := F0 m pc ls ((as.reverse ++ r).map (ga_v ad))) (rest := r.map (ga_v ad)) (As := as.map (ga_v ad)) (H := H) (locs := locs) (cells := 0 + kc) (slots := 0 + ks) hF hM ⟨hcb, hgood _ hst⟩ ⟨gb_blind, hPc⟩ rfl
        (by have : (as.map (ga_v ad)).length = as.length := List.length_map ..
            omega) hsz2 (by simp [List.map_append, List.map_reverse]) (by simpa [F0, JFrame.monitorRoom] using hcat) hdg hf
      exact gb_done hrun hS9 hkk hkx
    · have hcn := va_cnB (own := own) (host := host) (index := i) (R := R) n hts (gb_ws_in hT hcw) rfl rfl rfl (hE.2.2.1 _ hlkw) (hgood _ hini) ⟨hmh.1, hmh.2, hpar⟩ hroom
      have hrun := vx_runSN (e := e) (meth := meth) (below := below) (g := F0 m pc ls ((as.reverse ++ r).map (ga_v ad))) (rest := r.map (ga_v ad)) (As := as.map (ga_v ad)) (H := H) (locs := locs) (cells := 0 + kc) (slots := 0 + ks) hF hM ⟨hcn, hgood _ hst, trivial⟩ ⟨gb_blind, hPc⟩ rfl
        (by have : (as.map (ga_v ad)).length = as.length := List.length_map ..
            omega) hsz2 (by simp [List.map_append, List.map_reverse]) (by simpa [F0, JFrame.monitorRoom] using hcat) hdg hf
      exact gb_done hrun hS9 hkk hkx
    · obtain ⟨n0, as', has⟩ := hrc as S σ o hg
      subst has
      have hcb := callB_of (own := own) (index := i) (R := R) n hts (gb_ws_in hT hcw) rfl rfl rfl (hgood _ hini) (hgood _ hlkw) ⟨hmh.1, hmh.2, hpar⟩ hroom
      have hrun := vx_runI (e := e) (meth := meth) (below := below) (g := F0 m pc ls ((((Value.ref n0 :: as').reverse ++ r)).map (ga_v ad))) (rest := r.map (ga_v ad)) (As := as'.map (ga_v ad)) (b := ad n0) (H := H) (locs := locs) (cells := 0 + kc) (slots := 0 + ks) hF hM ⟨hcb, hnm, hgood _ hinst⟩ ⟨gb_blind, hPc⟩ rfl
        (by have : (as'.map (ga_v ad)).length = as'.length := List.length_map ..
            have h2 : as'.length + 1 = na := hlen
            omega) hsz2 (by simp [List.map_append, List.map_reverse, ga_v]) (by simpa [F0, JFrame.monitorRoom] using hcat) hdg hf
      exact gb_done hrun hS9 hkk hkx
    · obtain ⟨n0, as', has⟩ := hrc as S σ o hg
      subst has
      have hcn := va_cnB (own := own) (host := host) (index := i) (R := R) n hts (gb_ws_in hT hcw) rfl rfl rfl (hE.2.2.1 _ hlkw) (hgood _ hini) ⟨hmh.1, hmh.2, hpar⟩ hroom
      have hrun := vx_runIN (e := e) (meth := meth) (below := below) (g := F0 m pc ls ((((Value.ref n0 :: as').reverse ++ r)).map (ga_v ad))) (rest := r.map (ga_v ad)) (As := as'.map (ga_v ad)) (b := ad n0) (H := H) (locs := locs) (cells := 0 + kc) (slots := 0 + ks) hF hM ⟨hcn, hnm, hgood _ hinst⟩ ⟨gb_blind, hPc⟩ rfl
        (by have : (as'.map (ga_v ad)).length = as'.length := List.length_map ..
            have h2 : as'.length + 1 = na := hlen
            omega) hsz2 (by simp [List.map_append, List.map_reverse, ga_v]) (by simpa [F0, JFrame.monitorRoom] using hcat) hdg hf
      exact gb_done hrun hS9 hkk hkx
  · have hM := hC as S σ o hPS hlen hg
    have hcs : vx_CSW R s args own i y bytes maxL ret hh (gb_wsW y bytes maxL ret hh) (gb_rm lv (cost mid).1 (cost mid).2) (cost mid).1 (cost mid).2 n := by
      refine ⟨⟨rfl, rfl, hroom.1, hroom.2, pay_in hts (gb_wsW_in hT hcw), List.mem_cons_self⟩, hgood _ hcw, hgood _ hini, hmh, fun sig h => ?_, hgood _ hlkw, hgood _ hst⟩
      rw [h] at hpar
      exact (Option.some.inj hpar).symm
    have hrun := vx_runSX (e := e) (meth := meth) (below := below) (g := F0 m pc ls ((as.reverse ++ r).map (ga_v ad))) (rest := r.map (ga_v ad)) (As := as.map (ga_v ad)) (H := H) (locs := locs) (cells := 0 + kc) (slots := 0 + ks) hF hM hcs ⟨gb_blind, hPc⟩ rfl
      (by have : (as.map (ga_v ad)).length = as.length := List.length_map ..
          omega) hsz2 (by simp [List.map_append, List.map_reverse]) (by simpa [F0, JFrame.monitorRoom] using hcat) hdg hf
    exact gb_done hrun hS9 hkk hkx
end GB5
