section D21
variable {N : Nat → Nat} {Q P : Nat → Nat → Int32} {s : ga_M}
/-- a loop with any state -/
def gFo {β : Type} (f : Nat → β → β) : Nat → Nat → β → β
  | 0, _, a => a
  | m + 1, k, a => gFo f m (k + 1) (f k a)
theorem g_fold {α β : Type} {F : Nat → Nat → β → Option α} {f : Nat → β → β} {g : β → Option α} {N : Nat} (hs : ∀ n k a, k < N → F (n + 1) k a = F n (k + 1) (f k a)) (he : ∀ n a, F (n + 1) N a = g a) : ∀ m k n a, k + m = N → m < n → F n k a = g (gFo f m k a) := by
  intro m
  induction m with
  | zero =>
    intro k n a hk hn
    obtain ⟨n, rfl⟩ : ∃ j, n = j + 1 := ⟨n - 1, by omega⟩
    have : k = N := by omega
    subst this
    exact he n a
  | succ m ih =>
    intro k n a hk hn
    obtain ⟨n, rfl⟩ : ∃ j, n = j + 1 := ⟨n - 1, by omega⟩
    rw [hs n k a (by omega), gFo]
    exact ih (k + 1) n _ (by omega) (by omega)
theorem g_fold0 {α β : Type} {F : Nat → Nat → β → Option α} {f : Nat → β → β} {g : β → Option α} {N : Nat} (hN : N < 2147483648) (hs : ∀ n k a, k < N → F (n + 1) k a = F n (k + 1) (f k a)) (he : ∀ n a, F (n + 1) N a = g a) (a : β) : F ga_fuel 0 a = g (gFo f N 0 a) :=
  g_fold hs he N 0 ga_fuel a (by omega) (d_fuel hN)
/-! windows -/
def dWf (p : Nat → Bool) (k : Nat) (a : Int32 × Int32 × Int32) : Int32 × Int32 × Int32 := if p k = true then (if a.1 = -1 then nI k else a.1, nI k, a.2.2 + 1) else a
def dWg (a : Int32 × Int32 × Int32) : Int32 := if a.2.2 = 0 then 0 else ((a.2.1 - a.1) + 1) - a.2.2
def dWin (p : Nat → Bool) (n : Nat) : Int32 := dWg (gFo (dWf p) n 0 (-1, -1, 0))
def dGap (m : Int32) (k : Nat) : Bool := !dHb m (nI k) && (!decide ((m &&& ((1 <<< (nI k &&& 31)) - 1)) = 0) && !decide ((m >>> (nI k &&& 31)) = 0))
def dBs (b : List Bool) (k : Nat) : Bool := b.getD k false
theorem d_win_b : ∀ b0 b1 b2 b3 b4 b5 : Bool, (dWin (dBs [b0, b1, b2, b3, b4, b5]) 6 = dCt (dGap (dMs (dBs [b0, b1, b2, b3, b4, b5]) 6)) 6) ∧ (dWin (dBs [b0, b1, b2, b3, b4, b5]) 5 = dCt (dGap (dMs (dBs [b0, b1, b2, b3, b4, b5]) 5)) 5) ∧ (dWin (dBs [b0, b1, b2, b3, b4, b5]) 4 = dCt (dGap (dMs (dBs [b0, b1, b2, b3, b4, b5]) 4)) 4)
  ∧ (dWin (dBs [b0, b1, b2, b3, b4, b5]) 3 = dCt (dGap (dMs (dBs [b0, b1, b2, b3, b4, b5]) 3)) 3) ∧ (dWin (dBs [b0, b1, b2, b3, b4, b5]) 2 = dCt (dGap (dMs (dBs [b0, b1, b2, b3, b4, b5]) 2)) 2) ∧ (dWin (dBs [b0, b1, b2, b3, b4, b5]) 1 = dCt (dGap (dMs (dBs [b0, b1, b2, b3, b4, b5]) 1)) 1) := by
  decide +kernel
theorem gFo_cong {β : Type} {f g : Nat → β → β} : ∀ m k a, (∀ j a, k ≤ j → j < k + m → f j a = g j a) → gFo f m k a = gFo g m k a := by
  intro m
  induction m with
  | zero => intro k a _; rfl
  | succ m ih =>
    intro k a h
    unfold gFo
    rw [h k a (Nat.le_refl _) (by omega), ih (k + 1) _ (fun j a h1 h2 => h j a (by omega) (by omega))]
theorem dWin_cong {p q : Nat → Bool} {n : Nat} (h : ∀ j, j < n → p j = q j) : dWin p n = dWin q n := by
  unfold dWin
  rw [gFo_cong (f := dWf p) (g := dWf q) n 0 _ (fun j a _ h2 => by unfold dWf; rw [h j (by omega)])]
theorem d_win (p : Nat → Bool) {n : Nat} (h1 : 1 ≤ n) (h6 : n ≤ 6) : dWin p n = dCt (dGap (dMs p n)) n := by
  have hb : ∀ j, j < n → p j = dBs [p 0, p 1, p 2, p 3, p 4, p 5] j := by
    intro j hj
    rcases (show j = 0 ∨ j = 1 ∨ j = 2 ∨ j = 3 ∨ j = 4 ∨ j = 5 by omega) with rfl | rfl | rfl | rfl | rfl | rfl <;> rfl
  rw [dWin_cong hb, dMs_cong hb]
  obtain ⟨e6, e5, e4, e3, e2, e1⟩ := d_win_b (p 0) (p 1) (p 2) (p 3) (p 4) (p 5)
  rcases (show n = 6 ∨ n = 5 ∨ n = 4 ∨ n = 3 ∨ n = 2 ∨ n = 1 by omega) with rfl | rfl | rfl | rfl | rfl | rfl
  · exact e6
  · exact e5
  · exact e4
  · exact e3
  · exact e2
  · exact e1
end D21
