noncomputable section
section GLT
variable {l : Launch} {D : va_G} {cA : Nat → ClassId} {ad : Nat → Nat} {A : Nat → Prop} {adV : Nat → Nat}
theorem gt_met {y : MethodName} {own : String} {cc : ByteArray} {cl : List (Nat × ga_E)} {g : ga_G} {cost : Nat → Nat × Nat} {maxL lev mc ms : Nat} {as : List Value} {S : ga_S} {σ σ' : ga_M} {lf : Bool}
    {fl : List (Nat × Nat × Nat)} {sl : List (Nat × Nat)} {nl ll : List (Nat × Int32)} {tl : List (Nat × Nat × Nat)} {nwl : List (Nat × Nat)} {oil : List Nat}
    (hy : plainName own = true) (hyo : y.cls = own) (hown : gb_Own own fl sl nl ll tl) (hown2 : gk_Own own nwl oil) (hwd : gk_Wd) (hck : cl.all (gk_rk own fl sl nl ll tl nwl oil cc) = true) (hnt : cl.all gk_nt = true)
    (hlk : ∀ q ∈ cl, ((∃ i, q.2.1 = .invokevirtual i) ∨ (∃ i, q.2.1 = .invokestatic i) ∨ (∃ i, q.2.1 = .invokespecial i) ∧ q.2.2.2.1 ≠ 0) → (∀ as S σ, g ga_O q.2.2.2.1 as S σ some = none) ∨ gb_LkM g own q.2.1 q.2.2.2.1 q.2.2.2.2.1 ∨ gb_Lk l D cA ad A adV g cost (fun _ _ => True) own lev q.2.1 q.2.2.2.1 q.2.2.2.2.1 q.2.2.2.2.2)
    (hT : ga_T own cc (ga_lk cl) g cost (fun _ => []) gaCls 84 mc ms false lf true none (fun _ _ => True) gy_k (0, gb_L0 as maxL, [], S, σ, 0, 0) σ')
    (hg2 : ∀ (α : Type) mid as S σ (k : ga_O → Option α) o, g α mid as S σ k = some o → ∃ o1, g ga_O mid as S σ some = some o1 ∧ k o1 = some o)
    (hn : (gb_fl as).length ≤ maxL) (hlf : (!lf || as.all fun v => v.category == 1) = true) :
    gb_C l D cA ad A adV y (gb_ws y cc maxL none) lev mc ms as S σ (.inl none, gaSH, σ') := by
  refine vx_ofW (cc := cc) (maxL := maxL) (ret := none) (hyo ▸ hy) rfl ?_
  intro p e s m args below meth c s₁ B hml hout hPc
  obtain ⟨rfl, hP, hE⟩ := hPc
  have hx := B.exec
  have hb := B.bytes
  have hr := B.returns
  have hts := atoms_spec (ws := gb_ws y cc maxL none) B.pre
  have hcls : s.vm.findClass own = some m.cls := hyo ▸ findClass_of_methodNamed B.named
  have hlocks : meth.locks = false := B.notSynchronized
  have hS : va_S A s.heap s.heap [] := va_S.rf
  obtain ⟨c1, c2, c3, c4, c5, c6, c7, c8⟩ := gk_rows (s := s) (args := (as.map (ga_v ad)).toArray) (Ts := gb_ws y cc maxL none) hown hown2 hwd hck gb_ws_good hts hE
  have ok : ga_Ok p l e (gb_rm lev mc ms) s m (as.map (ga_v ad)).toArray below meth c (vx_MQ below (gb_Qc D cA ad A (.inl none, gaSH, σ')) (gb_XC D cA ad A (.inl none, gaSH, σ')) (as.map (ga_v ad)).toArray s mc ms A) cc own (gb_ws y cc maxL none) D cA ad A (ga_lk cl) g cost (fun _ => []) gaCls 84 mc ms false lf true none gb_exn 0 0 (fun o' => o' = (.inl none, gaSH, σ')) (fun _ _ => True) := by
    refine ⟨hx, hb, hcls, hts, hE.1, hE.2.2.2.2.2.2.2.2.2.1, hE.2.2.2.2.2.2.2.2.2.2, ⟨by simp [gb_rm], by simp [gb_rm], by simp only [gb_rm]; omega, by simp only [gb_rm]; omega⟩, (fun h => by cases h), (fun q h => by cases h), c1, c2, c3, c4, c5, c6, c7, c8, ⟨Or.inl fun _ _ => trivial, fun _ _ _ _ _ => trivial, fun _ _ _ _ _ _ _ => trivial, hg2⟩, ?_, ?_, gb_excOk hlocks hout, gb_catOk, gb_retOk hx hb hr hlocks (fun v hv => by cases hv; rfl)⟩
    · refine gb_callOk (Nat.le_refl _) (Nat.le_refl _) (Nat.le_refl _) (Nat.le_refl _) hx hb hml hcls gb_ws_good hts hE c1 ?_
      intro pc ins len mid na sw h hi
      exact hlk _ (gb_lk_mem h) hi
    · intro pc idx len r1 r2 sw h h9
      have h1 : Nat.blt r1 1000 = true := List.all_eq_true.mp hnt _ (gb_lk_mem h)
      have h2 := Nat.le_of_ble_eq_true h1
      exact absurd h9 (by omega)
  have hW := hT p l e (gb_rm lev mc ms) s m (as.map (ga_v ad)).toArray below meth c (vx_MQ below (gb_Qc D cA ad A (.inl none, gaSH, σ')) (gb_XC D cA ad A (.inl none, gaSH, σ')) (as.map (ga_v ad)).toArray s mc ms A) (gb_ws y cc maxL none) D cA ad A gb_exn 0 0 (fun o' => o' = (.inl none, gaSH, σ')) ok (fun o' ho' _ => gy_ho o' ho') (gb_L0_lf hlf) trivial (Nat.zero_le _) (Nat.zero_le _) s.heap []
  rw [lg_entry_eq]
  exact hW _ ⟨hP.1, hP.2.1, hS, hP.2.2⟩ (by rw [hml]; exact gb_L0_L hn)
theorem gq_rk_L_type : cl_L_type.all (gk_rk RL gb_flL gb_slL gb_nlL gb_llL gb_tlL gk_nwL gk_oiL cL_type) = true := by decide +kernel
theorem gq_nt_L_type : cl_L_type.all gk_nt = true := by decide +kernel
theorem gq_cr_L_type : cl_L_type.all (gk_cr [(.invokevirtual 7, 4, 1, []), (.invokevirtual 13, 5, 2, []), (.invokevirtual 17, 400, 6, [(0, 11)]), (.invokevirtual 23, 401, 2, [(0, 11)])]) = true := by decide +kernel
theorem gy_len {as : List Value} {S : ga_S} {σ : ga_M} {o : ga_O} (hg : c_J0_length_8abf5 as S σ some = some o) : gb_C l D cA ad A adV (gb_y 4) (gb_ws (gb_y 4) (gb_b 4) (gb_n 4) (gb_r 4)) (gb_lv 4) (gaCost 4).1 (gaCost 4).2 as S σ o ∧ ∃ i as', as = .ref (1000 + i) :: as' ∧ i < ga_txs.length := by
  unfold c_J0_length_8abf5 at hg
  split at hg
  · rename_i w
    obtain ⟨x, hx, hg⟩ := gc_bind hg
    obtain ⟨i, hi, rfl, rfl⟩ := gj_sl hx
    obtain rfl := Option.some.inj hg
    exact ⟨gj_len i hi S σ, i, [], rfl, hi⟩
  · cases hg
theorem gy_char {as : List Value} {S : ga_S} {σ : ga_M} {o : ga_O} (hg : c_J0_charAt_5068e as S σ some = some o) : gb_C l D cA ad A adV (gb_y 5) (gb_ws (gb_y 5) (gb_b 5) (gb_n 5) (gb_r 5)) (gb_lv 5) (gaCost 5).1 (gaCost 5).2 as S σ o ∧ ∃ i as', as = .ref (1000 + i) :: as' ∧ i < ga_txs.length := by
  unfold c_J0_charAt_5068e at hg
  split at hg
  · rename_i w k
    obtain ⟨x, hx, hg⟩ := gc_bind hg
    obtain ⟨i, j, hi, rfl, hj, rfl, rfl⟩ := gj_sc hx
    obtain rfl := Option.some.inj hg
    exact ⟨gj_char i j hi hj S σ, i, _, rfl, hi⟩
  · cases hg
theorem gy_LkS {mid i na lev : Nat} {own : String} (hT : gb_Tb mid) (hki : gb_ki mid = 2) (h1 : gb_lv mid + 1 ≤ lev) (h7 : na = gb_ar mid + 1) (h9 : Cond.methodLink own i (gb_y mid) ∈ gb_good)
    (hC : ∀ as S σ o, gaY ga_O mid as S σ some = some o → gb_C l D cA ad A adV (gb_y mid) (gb_ws (gb_y mid) (gb_b mid) (gb_n mid) (gb_r mid)) (gb_lv mid) (gaCost mid).1 (gaCost mid).2 as S σ o ∧ ∃ i as', as = .ref (1000 + i) :: as' ∧ i < ga_txs.length) : gb_Lk l D cA ad A adV gaY gaCost (fun _ _ => True) own lev (.invokevirtual i) mid na [] := by
  obtain ⟨k1, k2, k3⟩ := hT.2.2.2.2.2.2.2 hki
  exact ⟨gb_y mid, gb_b mid, gb_n mid, gb_r mid, gb_lv mid, gb_ar mid, h1, hT.2.2.2.2.1, hT.2.2.1, hT.2.1, hT.2.2.2.1, Or.inl ⟨hT.1, fun as S σ o _ _ hg => (hC as S σ o hg).1, Or.inl ⟨i, rfl, h7, h9, k1, k2, Or.inr ⟨k3, fun as S σ o hg => (hC as S σ o hg).2⟩⟩⟩⟩
theorem gy_inS {S : ga_S} (h : gy_in S = true) : S = gaA1 ∨ S = gaA2 ∨ S = gaA3 ∨ S = gaA4 ∨ S = gaA5 ∨ S = gaA6 ∨ S = gaA7 ∨ S = gaA8 ∨ S = gaA9 ∨ S = gaA10 ∨ S = gaA11 ∨ S = gaSH := by
  unfold gy_in at h
  rcases (Bool.or_eq_true _ _).mp h with h | h
  · exact Or.inl (gk_eq_eq h)
  rcases (Bool.or_eq_true _ _).mp h with h | h
  · exact Or.inr (Or.inl (gk_eq_eq h))
  rcases (Bool.or_eq_true _ _).mp h with h | h
  · exact Or.inr (Or.inr (Or.inl (gk_eq_eq h)))
  rcases (Bool.or_eq_true _ _).mp h with h | h
  · exact Or.inr (Or.inr (Or.inr (Or.inl (gk_eq_eq h))))
  rcases (Bool.or_eq_true _ _).mp h with h | h
  · exact Or.inr (Or.inr (Or.inr (Or.inr (Or.inl (gk_eq_eq h)))))
  rcases (Bool.or_eq_true _ _).mp h with h | h
  · exact Or.inr (Or.inr (Or.inr (Or.inr (Or.inr (Or.inl (gk_eq_eq h))))))
  rcases (Bool.or_eq_true _ _).mp h with h | h
  · exact Or.inr (Or.inr (Or.inr (Or.inr (Or.inr (Or.inr (Or.inl (gk_eq_eq h)))))))
  rcases (Bool.or_eq_true _ _).mp h with h | h
  · exact Or.inr (Or.inr (Or.inr (Or.inr (Or.inr (Or.inr (Or.inr (Or.inl (gk_eq_eq h))))))))
  rcases (Bool.or_eq_true _ _).mp h with h | h
  · exact Or.inr (Or.inr (Or.inr (Or.inr (Or.inr (Or.inr (Or.inr (Or.inr (Or.inl (gk_eq_eq h)))))))))
  rcases (Bool.or_eq_true _ _).mp h with h | h
  · exact Or.inr (Or.inr (Or.inr (Or.inr (Or.inr (Or.inr (Or.inr (Or.inr (Or.inr (Or.inl (gk_eq_eq h))))))))))
  rcases (Bool.or_eq_true _ _).mp h with h | h
  · exact Or.inr (Or.inr (Or.inr (Or.inr (Or.inr (Or.inr (Or.inr (Or.inr (Or.inr (Or.inr (Or.inl (gk_eq_eq h)))))))))))
  exact Or.inr (Or.inr (Or.inr (Or.inr (Or.inr (Or.inr (Or.inr (Or.inr (Or.inr (Or.inr (Or.inr (gk_eq_eq h)))))))))))
theorem gy_A (hl : l.stackTraces = false) {as : List Value} {S : ga_S} {σ : ga_M} {o : ga_O} (hg : cy_a as S σ some = some o) : gb_C l D cA ad A adV (gb_y 400) (gb_ws (gb_y 400) (gb_b 400) (gb_n 400) (gb_r 400)) (gb_lv 400) (gaCost 400).1 (gaCost 400).2 as S σ o := by
  unfold cy_a at hg
  split at hg
  · rename_i r0 a b c d e
    obtain ⟨hb, k2⟩ := gc_bif hg
    obtain ⟨hb0, hb1⟩ := Bool.and_eq_true_iff.mp hb
    have e0 := Nat.eq_of_beq_eq_true hb0
    subst e0
    obtain ⟨⟨q1, q2⟩, hq, k3⟩ := gc_bind k2
    cases q1 with
    | inr E => cases k3
    | inl x =>
      have eo := Option.some.inj k3
      subst eo
      rcases gy_inS hb1 with rfl | rfl | rfl | rfl | rfl | rfl | rfl | rfl | rfl | rfl | rfl | rfl
      · exact gtA1 hl a b c d e σ x q2 hq
      · exact gtA2 hl a b c d e σ x q2 hq
      · exact gtA3 hl a b c d e σ x q2 hq
      · exact gtA4 hl a b c d e σ x q2 hq
      · exact gtA5 hl a b c d e σ x q2 hq
      · exact gtA6 hl a b c d e σ x q2 hq
      · exact gtA7 hl a b c d e σ x q2 hq
      · exact gtA8 hl a b c d e σ x q2 hq
      · exact gtA9 hl a b c d e σ x q2 hq
      · exact gtA10 hl a b c d e σ x q2 hq
      · exact gtA11 hl a b c d e σ x q2 hq
      · exact (gm_400 hl).2.2 [.ref 0, .int a, .int b, .int c, .int d, .int e] σ (.inl (some (.int x)), gaSH, q2) (show c_X11_appendText [.ref 0, .int a, .int b, .int c, .int d, .int e] gaSH σ some = some (.inl (some (.int x)), gaSH, q2) from by
        show ((f_X11_appendText a b c d e σ).bind _) = _
        rw [hq]; rfl)
  · cases hg
theorem gy_T (hl : l.stackTraces = false) {as : List Value} {S : ga_S} {σ : ga_M} {o : ga_O} (hg : cy_t as S σ some = some o) : gb_C l D cA ad A adV (gb_y 401) (gb_ws (gb_y 401) (gb_b 401) (gb_n 401) (gb_r 401)) (gb_lv 401) (gaCost 401).1 (gaCost 401).2 as S σ o := by
  unfold cy_t at hg
  split at hg
  · rename_i r0 a
    obtain ⟨hb, k2⟩ := gc_bif hg
    obtain ⟨hb0, hb1⟩ := Bool.and_eq_true_iff.mp hb
    have e0 := Nat.eq_of_beq_eq_true hb0
    subst e0
    obtain ⟨⟨q1, q2⟩, hq, k3⟩ := gc_bind k2
    have eS := gk_eq_eq hb1
    subst eS
    cases q1 with
    | inr E => cases k3
    | inl x =>
      have eo := Option.some.inj k3
      subst eo
      exact (gm_401 hl).2.2 [.ref 0, .int a] σ (.inl (some (.int x)), gaSH, q2) (show c_X11_truncateText [.ref 0, .int a] gaSH σ some = some (.inl (some (.int x)), gaSH, q2) from by
        show ((f_X11_truncateText a σ).bind _) = _
        rw [hq]; rfl)
  · cases hg
theorem gl_type (hl : l.stackTraces = false) (σ σ' : ga_M) (hq : f_L_type σ = some σ') : gb_C l D cA ad A adV yL_type (gb_ws yL_type cL_type 5 none) 6 265 1578 [.ref 0, .ref 1024] gkB_X11_init_0 σ (.inl none, gaSH, σ') := by
  have hr : ∀ r ∈ ([(.invokevirtual 7, 4, 1, []), (.invokevirtual 13, 5, 2, []), (.invokevirtual 17, 400, 6, [(0, 11)]), (.invokevirtual 23, 401, 2, [(0, 11)])] : List (Instr × Nat × Nat × List (Int32 × Nat))), gb_Lk l D cA ad A adV gaY gaCost (fun _ _ => True) RL 6 r.1 r.2.1 r.2.2.1 r.2.2.2 := List.forall_mem_cons.mpr ⟨gy_LkS gb_T4 (by decide +kernel) (by decide +kernel) (by decide +kernel) (gb_w5 160 rfl rfl) (fun as S σ o hg => gy_len hg), List.forall_mem_cons.mpr ⟨gy_LkS gb_T5 (by decide +kernel) (by decide +kernel) (by decide +kernel) (gb_w5 161 rfl rfl) (fun as S σ o hg => gy_char hg), List.forall_mem_cons.mpr ⟨gk_LkV gb_T400 (by decide +kernel) (by decide +kernel) (by decide +kernel) (by decide +kernel) (gb_w5 162 rfl rfl) (fun as S σ o _ hg => gy_A hl hg), List.forall_mem_cons.mpr ⟨gk_LkV gb_T401 (by decide +kernel) (by decide +kernel) (by decide +kernel) (by decide +kernel) (gb_w5 172 rfl rfl) (fun as S σ o _ hg => gy_T hl hg), fun _ h => nomatch h⟩⟩⟩⟩
  exact gt_met (lf := true) gl_pnL rfl gb_oL gk_oL gk_wd gq_rk_L_type gq_nt_L_type (gk_hlk hr gq_cr_L_type) (gv_T_T (ty_type σ σ' hq)) gy_g (Nat.le_of_ble_eq_true rfl) rfl
end GLT
end
