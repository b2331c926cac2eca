section D1
/-! ===== what the class's cells and the reference's cells hold: a school (N: how many; Q: its rows), a plan (P 0 slots, 1 teachers, 2 rooms, 3 supervised, 4 absences) ===== -/
def dWN (N : Nat → Nat) : Prop := (1 ≤ N 0 ∧ N 0 ≤ 5) ∧ (1 ≤ N 1 ∧ N 1 ≤ 6) ∧ (1 ≤ N 2 ∧ N 2 ≤ 6) ∧ (1 ≤ N 3 ∧ N 3 ≤ 8) ∧ (1 ≤ N 4 ∧ N 4 ≤ 6) ∧ (1 ≤ N 5 ∧ N 5 ≤ 6) ∧ N 6 ≤ 40
/-- the school's rows: 1 kinds of subjects, 2 most, 3 skills, 4 kinds of rooms, 5 classes, 6 subjects, 7 slots, 8 teachers, 9 rooms of the lessons -/
def dSl (N : Nat → Nat) : Nat := N 0 * N 1
def dWQ (N : Nat → Nat) (Q : Nat → Nat → Int32) : Prop :=
  (∀ k, k < N 6 → ∃ j, j < N 2 ∧ Q 6 k = nI j) ∧ (∀ k, k < N 6 → ∃ j, j < dSl N ∧ Q 7 k = nI j) ∧ (∀ k, k < N 6 → ∃ j, j < N 3 ∧ Q 8 k = nI j) ∧ (∀ k, k < N 6 → ∃ j, j < N 4 ∧ Q 9 k = nI j) ∧
  (∀ i k, i < N 6 → k < N 6 → i ≠ k → Q 7 i = Q 7 k → Q 8 i ≠ Q 8 k) ∧ (∀ i k, i < N 6 → k < N 6 → i ≠ k → Q 7 i = Q 7 k → Q 9 i ≠ Q 9 k)
def dWP (N : Nat → Nat) (P : Nat → Nat → Int32) : Prop :=
  (∀ k, k < N 6 → ∃ j, j < dSl N ∧ P 0 k = nI j) ∧ (∀ k, k < N 6 → P 1 k = -1 ∨ ∃ j, j < N 3 ∧ P 1 k = nI j) ∧ (∀ k, k < N 6 → ∃ j, j < N 4 ∧ P 2 k = nI j) ∧ (∀ k, k < N 6 → P 3 k = 0 ∨ (P 3 k = 1 ∧ P 1 k ≠ -1)) ∧
  (∀ i k, i < N 6 → k < N 6 → i ≠ k → P 0 i = P 0 k → P 1 i ≠ -1 → P 1 i ≠ P 1 k) ∧ (∀ i k, i < N 6 → k < N 6 → i ≠ k → P 0 i = P 0 k → P 2 i ≠ P 2 k)
/-- the class's school at the cell c (1, or the draft's 49) -/
def dCS (c : Nat) (N : Nat → Nat) (Q : Nat → Nat → Int32) (s : ga_M) : Prop :=
  (∀ k, k < 7 → s c k = nI (N k)) ∧ (∀ k, k < N 2 → s (c + 2) k = Q 1 k) ∧ (∀ k, k < N 3 → s (c + 4) k = Q 2 k) ∧ (∀ k, k < N 3 → s (c + 6) k = Q 3 k) ∧ (∀ k, k < N 4 → s (c + 8) k = Q 4 k) ∧
  (∀ k, k < N 6 → s (c + 10) k = Q 5 k) ∧ (∀ k, k < N 6 → s (c + 12) k = Q 6 k) ∧ (∀ k, k < N 6 → s (c + 14) k = Q 7 k) ∧ (∀ k, k < N 6 → s (c + 16) k = Q 8 k) ∧ (∀ k, k < N 6 → s (c + 18) k = Q 9 k)
def dCP (N : Nat → Nat) (P : Nat → Nat → Int32) (s : ga_M) : Prop :=
  (∀ k, k < N 6 → s 22 k = P 0 k) ∧ (∀ k, k < N 6 → s 24 k = P 1 k) ∧ (∀ k, k < N 6 → s 26 k = P 2 k) ∧ (∀ k, k < N 6 → s 28 k = P 3 k) ∧ ∀ k, k < 8 → s 30 k = P 4 k
/-- the reference's school in the row b (73, or the fresh 74) -/
def dMS (b : Nat) (N : Nat → Nat) (Q : Nat → Nat → Int32) (s : ga_M) : Prop :=
  (∀ k, k < 7 → s b k = nI (N k)) ∧ (∀ k, k < N 2 → s b (7 + k) = Q 1 k) ∧ (∀ k, k < N 3 → s b (13 + k) = Q 2 k) ∧ (∀ k, k < N 3 → s b (21 + k) = Q 3 k) ∧ (∀ k, k < N 4 → s b (29 + k) = Q 4 k) ∧
  (∀ k, k < N 6 → s b (35 + k) = Q 5 k) ∧ (∀ k, k < N 6 → s b (75 + k) = Q 6 k) ∧ (∀ k, k < N 6 → s b (115 + k) = Q 7 k) ∧ (∀ k, k < N 6 → s b (155 + k) = Q 8 k) ∧ (∀ k, k < N 6 → s b (195 + k) = Q 9 k)
def dMP (N : Nat → Nat) (P : Nat → Nat → Int32) (s : ga_M) : Prop :=
  (∀ k, k < N 6 → s 75 k = P 0 k) ∧ (∀ k, k < N 6 → s 75 (40 + k) = P 1 k) ∧ (∀ k, k < N 6 → s 75 (80 + k) = P 2 k) ∧ (∀ k, k < N 6 → s 75 (120 + k) = P 3 k) ∧ ∀ k, k < 8 → s 75 (160 + k) = P 4 k
def dW (N : Nat → Nat) (Q P : Nat → Nat → Int32) : Prop := dWN N ∧ dWQ N Q ∧ dWP N P
def dC (N : Nat → Nat) (Q P : Nat → Nat → Int32) (s : ga_M) : Prop := dCS 1 N Q s ∧ dCP N P s
def dM (N : Nat → Nat) (Q P : Nat → Nat → Int32) (s : ga_M) : Prop := dMS 73 N Q s ∧ dMP N P s
/-! what is asked of them -/
def dHb (m b : Int32) : Bool := decide ((m >>> (b &&& 31)) &&& 1 = 1)
def aDay (N : Nat → Nat) (x : Int32) : Int32 := x / nI (N 1)
def aAway (N : Nat → Nat) (P : Nat → Nat → Int32) (t : Nat) (x : Int32) : Bool := dHb (P 4 t) (aDay N x)
def aAt (N : Nat → Nat) (P : Nat → Nat → Int32) (i : Nat) (x v : Int32) : Int32 := dFind (fun k => decide (P 0 k = x) && decide (P i k = v)) (N 6)
def aAtC (N : Nat → Nat) (Q P : Nat → Nat → Int32) (x v : Int32) : Int32 := dFind (fun k => decide (P 0 k = x) && decide (Q 5 k = v)) (N 6)
def aQual (Q : Nat → Nat → Int32) (t l : Nat) : Bool := dHb (Q 3 t) (Q 6 l)
def aTaught (P : Nat → Nat → Int32) (k : Nat) : Bool := !decide (P 1 k = -1) && decide (P 3 k = 0)
def aBy (N : Nat → Nat) (P : Nat → Nat → Int32) (v : Int32) : Int32 := dCt (fun k => decide (P 1 k = v) && decide (P 3 k = 0)) (N 6)
def aFirst (N : Nat → Nat) (Q : Nat → Nat → Int32) (v : Int32) : Int32 := dCt (fun k => decide (Q 8 k = v)) (N 6)
def aLoad (N : Nat → Nat) (Q P : Nat → Nat → Int32) (v : Int32) : Int32 := aBy N P v - aFirst N Q v
def aDut (N : Nat → Nat) (P : Nat → Nat → Int32) (v : Int32) : Int32 := dCt (fun k => decide (P 1 k = v) && decide (P 3 k = 1)) (N 6)
def aDutOn (N : Nat → Nat) (P : Nat → Nat → Int32) (v d : Int32) : Int32 := dCt (fun k => decide (P 1 k = v) && (decide (P 3 k = 1) && decide (aDay N (P 0 k) = d))) (N 6)
def aDiff (Q P : Nat → Nat → Int32) (k : Nat) : Bool := !(decide (P 0 k = Q 7 k) && (decide (P 1 k = Q 8 k) && (decide (P 2 k = Q 9 k) && !decide (P 3 k = 1))))
def aDiffs (N : Nat → Nat) (Q P : Nat → Nat → Int32) : Int32 := dCt (aDiff Q P) (N 6)
def aB (b : Bool) : Int32 := if b = true then 1 else 0
theorem aB_0 {b : Bool} : (aB b = 0) = (b = false) := by cases b <;> simp [aB]
/-- why not -/
def aCover (N : Nat → Nat) (Q P : Nat → Nat → Int32) (l t : Nat) : Int32 :=
  if aTaught P l = true then 1 else if aAway N P t (P 0 l) = true then 2 else if aQual Q t l = false then 3 else if aAt N P 1 (P 0 l) (nI t) ≠ -1 then 4 else if aLoad N Q P (nI t) < Q 2 t then 0 else 5
def aSuper (N : Nat → Nat) (P : Nat → Nat → Int32) (l t : Nat) : Int32 :=
  if P 1 l ≠ -1 then 1 else if aAway N P t (P 0 l) = true then 2 else if aAt N P 1 (P 0 l) (nI t) ≠ -1 then 4 else if aDutOn N P (nI t) (aDay N (P 0 l)) < 2 then 0 else 6
def aThird (N : Nat → Nat) (P : Nat → Nat → Int32) (i l o : Nat) : Bool := !decide (aAt N P i (P 0 o) (P i l) = -1 ∨ aAt N P i (P 0 o) (P i l) = nI l ∨ aAt N P i (P 0 o) (P i l) = nI o)
def aExch (N : Nat → Nat) (Q P : Nat → Nat → Int32) (l o : Nat) : Int32 :=
  if Q 5 l ≠ Q 5 o then 1 else if P 0 l = P 0 o then 2 else if P 1 l = -1 ∨ P 1 o = -1 then 3
  else if dHb (P 4 (P 1 l).toNatClampNeg) (aDay N (P 0 o)) = true ∨ dHb (P 4 (P 1 o).toNatClampNeg) (aDay N (P 0 l)) = true then 4
  else if aThird N P 1 l o = true ∨ aThird N P 1 o l = true then 5 else if aThird N P 2 l o = true ∨ aThird N P 2 o l = true then 6 else 0
def aMove (N : Nat → Nat) (Q P : Nat → Nat → Int32) (l : Nat) (x : Int32) : Int32 :=
  if P 0 l = x then 2 else if aAtC N Q P x (Q 5 l) ≠ -1 then 1 else if P 1 l ≠ -1 ∧ dHb (P 4 (P 1 l).toNatClampNeg) (aDay N x) = true then 4
  else if P 1 l ≠ -1 ∧ aAt N P 1 x (P 1 l) ≠ -1 then 5 else if aAt N P 2 x (P 2 l) ≠ -1 then 6 else 0
def aRoom (N : Nat → Nat) (Q P : Nat → Nat → Int32) (l r : Nat) : Int32 :=
  if P 2 l = nI r then 2 else if Q 4 r ≠ Q 1 (Q 6 l).toNatClampNeg then 7 else if aAt N P 2 (P 0 l) (nI r) ≠ -1 then 6 else 0
end D1
