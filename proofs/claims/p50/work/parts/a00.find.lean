section D30
variable {N : Nat → Nat} {Q P : Nat → Nat → Int32} {s : ga_M}
def gB (s : ga_M) (c : List Nat) : Prop := ∀ j, j < c.length → s 79 j = nI (c.getD j 0)
/-- the chain of a lesson -/
def gCh (N : Nat → Nat) (Q P : Nat → Nat → Int32) (l : Nat) (c : List Nat) : Prop := (P 1 l ≠ -1 → c = []) ∧ (P 1 l = -1 → gBest (N 3) (gE N Q P (P 0 l)) (gF N Q P (P 0 l)) (gLd N Q P) (gC N Q P (P 0 l) l) c)
theorem gCh_same {l : Nat} {c c' : List Nat} (h : gCh N Q P l c) (h1 : P 1 l ≠ -1 → c' = []) (h2 : P 1 l = -1 → gBestP (N 3) (gE N Q P (P 0 l)) (gF N Q P (P 0 l)) (gLd N Q P) (gC N Q P (P 0 l) l) c') : c = c' := by
  by_cases e : P 1 l = -1
  · exact gBest_same (h.2 e) (h2 e)
  · rw [h.1 e, h1 e]
theorem gCh_uniq {l : Nat} {c c' : List Nat} (h : gCh N Q P l c) (h' : gCh N Q P l c') : c = c' := by
  by_cases e : P 1 l = -1
  · rcases h.2 e with ⟨rfl, h1⟩ | ⟨h1, h2, h3, h4⟩
    · rcases h'.2 e with ⟨rfl, _⟩ | ⟨k1, k2, k3, _⟩
      · rfl
      · exact (h1 c' k3.1.1 k2).elim
    · rcases h'.2 e with ⟨rfl, k1⟩ | ⟨k1, k2, k3, k4⟩
      · exact (k1 c h3.1.1 h2).elim
      · have e1 := h4 c' k3.1.1
        have e2 := k4 c h3.1.1
        have e : c'.length = c.length := by omega
        rw [e] at k3
        exact gO_uniq (L := c.length) (S := fun x => gW (N 3) (gE N Q P (P 0 l)) (gF N Q P (P 0 l)) (gC N Q P (P 0 l) l) x ∧ x.length = c.length) (fun x hx => hx.2) h3 k3
  · rw [h.1 e, h'.1 e]
end D30
