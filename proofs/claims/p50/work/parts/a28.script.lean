section D58
/-! ===== runScript ===== -/
variable {T : Nat → Nat} {L : Nat} {N : Nat → Nat} {Q P : Nat → Nat → Int32} {s t : ga_M} {m : Nat} {H : Nat → Nat → Nat → Int32}
theorem tE_gt (hT : tOk T L) {st : Nat} (h : st < L) : st < tE T L st := by
  have hL := hT.1
  unfold tE
  rw [if_neg (by omega)]
  by_cases c1 : tLe (tB T L st) = true
  · rw [if_pos c1]
    have hr := tRun_spec (T := T) (L := L) (p := tLe) rfl 901 st (by omega) (by omega)
    by_cases e : tRun tLe T L 901 st = st
    · rw [e, c1] at hr; exact absurd hr.2.2.1 (by decide)
    · omega
  · rw [if_neg c1]
    by_cases c2 : tDi (tB T L st) = true
    · rw [if_pos c2]
      have hr := tRun_spec (T := T) (L := L) (p := tDi) rfl 901 st (by omega) (by omega)
      by_cases e : tRun tDi T L 901 st = st
      · rw [e, c2] at hr; exact absurd hr.2.2.1 (by decide)
      · omega
    · rw [if_neg c2]; omega
theorem tX_gt (hT : tOk T L) {st : Nat} (h : st < L) : st < tX T L st := by
  have h1 := tE_gt hT h
  have hE := tE_le (T := T) hT.1 (show st ≤ L by omega)
  have hS := tS_le (T := T) hT.1 hE.2
  unfold tX; omega
theorem c_stop (n : Nat) (l1 l3 : Int32) (s : ga_M) : f_X11_runScript_h20 (n + 1) l1 0 l3 s = (f_X1_restoreMarked (ga_up s 45 1 0)).bind fun s103 => some (-1, s103) := by
  rw [f_X11_runScript_h20]
  dsimp only
  rw [if_pos rfl, if_pos rfl]
  split <;> rfl
end D58
