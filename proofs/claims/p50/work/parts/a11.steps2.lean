section D41
variable {N : Nat → Nat} {Q P : Nat → Nat → Int32} {s : ga_M} {m : Nat} {H : Nat → Nat → Nat → Int32}
theorem dI_mk {s2 : ga_M} (h : dI N Q P m H s) (e1 : ∀ c, c ≤ 44 → s2 c = s c) (e73 : s2 73 = s 73) (e75 : s2 75 = s 75) (e77 : s2 77 = s 77) (e5 : s2 72 5 = s 72 5) (ht : dTx s2) (he : dEr s2) (hr : dRe s2) : dI N Q P m H s2 := by
  obtain ⟨h1, h2, h3, h4, h5, h6, h7, h8, h9⟩ := h
  exact ⟨h1, h2, dC_lt (fun c hc => e1 c (by omega)) h3, dM_cong e73 e75 h4, dCH_cong (e1 42 (by omega)) (e1 44 (by omega)) h5, dMH_cong e5 e77 h6, ht, he, hr⟩
end D41
