section D4
/-! ===== the reference's search of a lesson ===== -/
variable {N : Nat → Nat} {Q P : Nat → Nat → Int32} {s : ga_M}
def aWith (N : Nat → Nat) (P : Nat → Nat → Int32) (i : Nat) (v x d e : Int32) : Int32 := dFind (fun k => decide (P 0 k = x) && (decide (P i k = v) && (!decide (nI k = d) && !decide (nI k = e)))) (N 6)
end D4
