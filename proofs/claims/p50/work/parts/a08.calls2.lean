section D38
variable {N : Nat → Nat} {Q P : Nat → Nat → Int32} {s : ga_M} {m : Nat} {H : Nat → Nat → Nat → Int32}
def dCz (N : Nat → Nat) (Q P : Nat → Nat → Int32) (m : Nat) (H : Nat → Nat → Nat → Int32) (fc fm : ga_M → Option (Int32 × ga_M)) : Prop :=
  ∃ (P2 : Nat → Nat → Int32) (m2 : Nat) (H2 : Nat → Nat → Nat → Int32) (v : Int32), dW N Q P2 ∧ dWH N m2 H2 ∧
    (∀ s, dC N Q P s → dCH N m H s → ∃ s1, fc s = some (v, s1) ∧ dFc s s1 ∧ dC N Q P2 s1 ∧ dCH N m2 H2 s1) ∧
    ∀ s, dM N Q P s → dMH N m H s → ∃ s2, fm s = some (v, s2) ∧ dFm s s2 ∧ dM N Q P2 s2 ∧ dMH N m2 H2 s2
end D38
