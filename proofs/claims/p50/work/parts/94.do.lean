section D24
/-! ===== walks through a graph on n numbers: E edges, F the ends, C where it may begin ===== -/
def gW (n : Nat) (E : Nat → Nat → Bool) (F : Nat → Bool) : (Nat → Bool) → List Nat → Prop
  | _, [] => False
  | C, [t] => t < n ∧ C t = true ∧ F t = true
  | C, t :: u :: c => t < n ∧ C t = true ∧ gW n E F (E t) (u :: c)
variable {n : Nat} {E : Nat → Nat → Bool} {F : Nat → Bool}
def gT (n : Nat) (E : Nat → Nat → Bool) (F : Nat → Bool) (t : Nat) (c : List Nat) : Prop := (c = [] ∧ F t = true) ∨ (c ≠ [] ∧ gW n E F (E t) c)
theorem gW_iff {C : Nat → Bool} {t : Nat} {c : List Nat} : gW n E F C (t :: c) ↔ t < n ∧ C t = true ∧ gT n E F t c := by
  cases c with
  | nil => simp [gW, gT]
  | cons u c => simp [gW, gT]
theorem gW_suf {t : Nat} {q : List Nat} : ∀ (p : List Nat) (C : Nat → Bool), gW n E F C (p ++ t :: q) → gT n E F t q := by
  intro p
  induction p with
  | nil => intro C h; exact (gW_iff.mp h).2.2
  | cons a p ih =>
    intro C h
    rcases (gW_iff.mp h).2.2 with ⟨h1, _⟩ | ⟨_, h2⟩
    · simp at h1
    · exact ih _ h2
theorem gW_rep {t : Nat} {q q2 : List Nat} (h2 : gT n E F t q2) : ∀ (p : List Nat) (C : Nat → Bool), gW n E F C (p ++ t :: q) → gW n E F C (p ++ t :: q2) := by
  intro p
  induction p with
  | nil => intro C h; exact gW_iff.mpr ⟨(gW_iff.mp h).1, (gW_iff.mp h).2.1, h2⟩
  | cons a p ih =>
    intro C h
    have h3 := gW_iff.mp h
    refine gW_iff.mpr ⟨h3.1, h3.2.1, Or.inr ⟨by simp, ?_⟩⟩
    rcases h3.2.2 with ⟨h1, _⟩ | ⟨_, h4⟩
    · simp at h1
    · exact ih _ h4
theorem g_nodup : ∀ c : List Nat, (∀ p t q, c = p ++ t :: q → t ∉ q) → c.Nodup := by
  intro c
  induction c with
  | nil => intro _; exact List.nodup_nil
  | cons a c ih =>
    intro h
    refine List.nodup_cons.mpr ⟨h [] a c rfl, ih (fun p t q e => h (a :: p) t q (by rw [e]; rfl))⟩
/-- the shortest ones come to nobody twice -/
theorem gW_nodup {C : Nat → Bool} {c : List Nat} (h : gW n E F C c) (hm : ∀ c', gW n E F C c' → c.length ≤ c'.length) : c.Nodup := by
  refine g_nodup c (fun p t q e hq => ?_)
  subst e
  obtain ⟨q1, q2, rfl⟩ := List.append_of_mem hq
  have h1 : gT n E F t q2 := gW_suf (p ++ t :: q1) C (by simpa using h)
  have h2 := hm _ (gW_rep h1 p C h)
  simp at h2
  omega
/-- the order of sequences -/
def gL : List Nat → List Nat → Prop
  | [], _ => True
  | _ :: _, [] => False
  | a :: x, b :: y => a < b ∨ (a = b ∧ gL x y)
theorem gL_anti : ∀ {x y : List Nat}, gL x y → gL y x → x.length = y.length → x = y := by
  intro x
  induction x with
  | nil => intro y _ _ h; cases y with
    | nil => rfl
    | cons b y => simp at h
  | cons a x ih => intro y h1 h2 h; cases y with
    | nil => simp at h
    | cons b y =>
      have h3 : x.length = y.length := by simpa using h
      rcases h1 with h1 | ⟨rfl, h1⟩
      · rcases h2 with h2 | ⟨h2, _⟩ <;> omega
      · rcases h2 with h2 | ⟨_, h2⟩
        · omega
        · rw [ih h1 h2 h3]
theorem gL_pre {x y : List Nat} : ∀ w : List Nat, gL x y → gL (w ++ x) (w ++ y) := by
  intro w
  induction w with
  | nil => intro h; exact h
  | cons a w ih => intro h; exact Or.inr ⟨rfl, ih h⟩
def gLa (c : List Nat) : Nat := c.getLastD 0
theorem gLa_cons {t u : Nat} {c : List Nat} : gLa (t :: u :: c) = gLa (u :: c) := rfl
theorem gLa_app {w : List Nat} : ∀ {c : List Nat}, c ≠ [] → gLa (w ++ c) = gLa c := by
  intro c h
  induction w with
  | nil => rfl
  | cons a w ih =>
    cases e : w ++ c with
    | nil => simp at e; exact absurd e.2 h
    | cons u x => rw [List.cons_append, e, gLa_cons, ← e, ih]
/-- the best of those that S holds of -/
def gO (ld : Nat → Int32) (S : List Nat → Prop) (c : List Nat) : Prop := S c ∧ ∀ c', S c' → ld (gLa c) < ld (gLa c') ∨ (ld (gLa c) = ld (gLa c') ∧ gL c c')
theorem gO_uniq {ld : Nat → Int32} {S : List Nat → Prop} {L : Nat} (hS : ∀ c, S c → c.length = L) {c c' : List Nat} (h : gO ld S c) (h' : gO ld S c') : c = c' := by
  rcases h.2 c' h'.1 with h1 | ⟨h1, h2⟩
  · rcases h'.2 c h.1 with h3 | ⟨h3, _⟩
    · rw [Int32.lt_iff_toInt_lt] at h1 h3; omega
    · rw [h3, Int32.lt_iff_toInt_lt] at h1; omega
  · rcases h'.2 c h.1 with h3 | ⟨_, h4⟩
    · rw [h1, Int32.lt_iff_toInt_lt] at h3; omega
    · exact gL_anti h2 h4 (by rw [hS c h.1, hS c' h'.1])
/-- what the class finds, what the reference finds -/
def gBest (n : Nat) (E : Nat → Nat → Bool) (F : Nat → Bool) (ld : Nat → Int32) (C : Nat → Bool) (c : List Nat) : Prop :=
  (c = [] ∧ ∀ c', gW n E F C c' → c'.length ≤ 4 → False) ∨
  (1 ≤ c.length ∧ c.length ≤ 4 ∧ gO ld (fun c' => gW n E F C c' ∧ c'.length = c.length) c ∧ ∀ c', gW n E F C c' → c.length ≤ c'.length)
def gBestP (n : Nat) (E : Nat → Nat → Bool) (F : Nat → Bool) (ld : Nat → Int32) (C : Nat → Bool) (c : List Nat) : Prop :=
  (c = [] ∧ ∀ c', gW n E F C c' → c'.Nodup → c'.length ≤ 4 → False) ∨
  (1 ≤ c.length ∧ c.length ≤ 4 ∧ gO ld (fun c' => gW n E F C c' ∧ c'.Nodup ∧ c'.length = c.length) c ∧ ∀ c', gW n E F C c' → c'.Nodup → c'.length < c.length → False)
theorem gBest_nodup {ld : Nat → Int32} {C : Nat → Bool} {c : List Nat} (h : gBest n E F ld C c) : c.Nodup := by
  rcases h with ⟨rfl, _⟩ | ⟨_, _, h3, h4⟩
  · exact List.nodup_nil
  · exact gW_nodup h3.1.1 h4
theorem gBest_same {ld : Nat → Int32} {C : Nat → Bool} {c c' : List Nat} (h : gBest n E F ld C c) (h' : gBestP n E F ld C c') : c = c' := by
  have hn := gBest_nodup h
  rcases h with ⟨rfl, h1⟩ | ⟨h1, h2, h3, h4⟩
  · rcases h' with ⟨rfl, _⟩ | ⟨k1, k2, k3, _⟩
    · rfl
    · exact (h1 c' k3.1.1 k2).elim
  · rcases h' with ⟨rfl, k1⟩ | ⟨k1, k2, k3, k4⟩
    · exact (k1 c h3.1.1 hn h2).elim
    · have e1 := h4 c' k3.1.1
      have e2 : ¬ c.length < c'.length := fun e => k4 c h3.1.1 hn e
      have e : c'.length = c.length := by omega
      rw [e] at k3
      refine gO_uniq (L := c.length) (S := fun x => gW n E F C x ∧ x.length = c.length) (fun x hx => hx.2) h3 ⟨⟨k3.1.1, e⟩, fun x hx => k3.2 x ⟨hx.1, ?_, hx.2⟩⟩
      exact gW_nodup hx.1 (fun y hy => by rw [hx.2]; exact h4 y hy)
/-! the class's search -/
def gR (n : Nat) (E : Nat → Nat → Bool) (C : Nat → Bool) : Nat → Nat → Prop
  | 0, t => t < n ∧ C t = true
  | k + 1, u => u < n ∧ ∃ t, t < n ∧ gR n E C k t ∧ E t u = true
def gFin (n : Nat) (E : Nat → Nat → Bool) (A : Nat → Prop) : Nat → Nat → Prop
  | 0, t => A t
  | d + 1, t => ∃ u, u < n ∧ E t u = true ∧ gFin n E A d u
theorem gR_lt {C : Nat → Bool} : ∀ {k t : Nat}, gR n E C k t → t < n
  | 0, _, h => h.1
  | _ + 1, _, h => h.1
theorem gR_walk : ∀ (k : Nat) (C : Nat → Bool) (c : List Nat), gW n E F C c → c.length = k + 1 → gR n E C k (gLa c) ∧ F (gLa c) = true := by
  have key : ∀ (c : List Nat) (k : Nat) (C0 C : Nat → Bool), gW n E F C c → (∀ t, t < n → C t = true → gR n E C0 k t) → gR n E C0 (k + (c.length - 1)) (gLa c) ∧ F (gLa c) = true := by
    intro c
    induction c with
    | nil => intro k C0 C h; exact h.elim
    | cons t c ih =>
      intro k C0 C h hC
      cases c with
      | nil => exact ⟨hC t h.1 h.2.1, h.2.2⟩
      | cons u c =>
        have h1 := ih (k + 1) C0 (E t) h.2.2 (fun v hv hE => ⟨hv, t, h.1, hC t h.1 h.2.1, hE⟩)
        rw [gLa_cons]
        have e : k + ((t :: u :: c).length - 1) = k + 1 + ((u :: c).length - 1) := by simp; omega
        rw [e]
        exact h1
  intro k C c h hl
  have h1 := key c 0 C C h (fun t h1 h2 => ⟨h1, h2⟩)
  rw [Nat.zero_add, hl, Nat.add_sub_cancel] at h1
  exact h1
theorem gR_fin {C : Nat → Bool} {A : Nat → Prop} : ∀ (k d u : Nat), gR n E C k u → gFin n E A d u → ∃ t, t < n ∧ C t = true ∧ gFin n E A (d + k) t := by
  intro k
  induction k with
  | zero => intro d u h1 h2; exact ⟨u, h1.1, h1.2, h2⟩
  | succ k ih =>
    intro d u h1 h2
    obtain ⟨hu, t, ht, h3, h4⟩ := h1
    obtain ⟨x, h5, h6, h7⟩ := ih (d + 1) t h3 ⟨u, hu, h4, h2⟩
    exact ⟨x, h5, h6, by rw [show d + (k + 1) = d + 1 + k by omega]; exact h7⟩
/-- always the lowest that comes to the end -/
def gG (n : Nat) (E : Nat → Nat → Bool) (A : Nat → Prop) : Nat → (Nat → Bool) → List Nat → Prop
  | 0, C, c => ∃ t, c = [t] ∧ t < n ∧ C t = true ∧ A t ∧ ∀ t', t' < n → C t' = true → A t' → t ≤ t'
  | d + 1, C, c => ∃ t c', c = t :: c' ∧ t < n ∧ C t = true ∧ gFin n E A (d + 1) t ∧ (∀ t', t' < n → C t' = true → gFin n E A (d + 1) t' → t ≤ t') ∧ gG n E A d (E t) c'
theorem gFin_walk {A : Nat → Prop} : ∀ (d : Nat) (C : Nat → Bool) (t : Nat) (c : List Nat), gW n E F C (t :: c) → c.length = d → A (gLa (t :: c)) → gFin n E A d t := by
  intro d
  induction d with
  | zero => intro C t c h hl hA; cases c with
    | nil => exact hA
    | cons u c => simp at hl
  | succ d ih => intro C t c h hl hA; cases c with
    | nil => simp at hl
    | cons u c => exact ⟨u, (gW_iff.mp h.2.2).1, (gW_iff.mp h.2.2).2.1, ih _ u c h.2.2 (by simpa using hl) hA⟩
theorem gG_walk {A : Nat → Prop} (hA : ∀ t, A t → F t = true) : ∀ (d : Nat) (C : Nat → Bool) (c : List Nat), gG n E A d C c → gW n E F C c ∧ c.length = d + 1 ∧ A (gLa c) ∧ ∀ c', gW n E F C c' → c'.length = d + 1 → A (gLa c') → gL c c' := by
  intro d
  induction d with
  | zero =>
    intro C c h
    obtain ⟨t, rfl, h1, h2, h3, h4⟩ := h
    refine ⟨⟨h1, h2, hA t h3⟩, rfl, h3, fun c' k1 k2 k3 => ?_⟩
    match c', k1, k2, k3 with
    | [t'], k1, _, k3 =>
      have := h4 t' k1.1 k1.2.1 k3
      by_cases e : t = t'
      · exact Or.inr ⟨e, trivial⟩
      · exact Or.inl (by omega)
  | succ d ih =>
    intro C c h
    obtain ⟨t, c, rfl, h1, h2, h3, h4, h5⟩ := h
    obtain ⟨k1, k2, k3, k4⟩ := ih (E t) c h5
    have hc : c ≠ [] := by intro e; rw [e] at k2; simp at k2
    have hl : gLa (t :: c) = gLa c := gLa_app (w := [t]) hc
    refine ⟨gW_iff.mpr ⟨h1, h2, Or.inr ⟨hc, k1⟩⟩, by simp [k2], by rw [hl]; exact k3, fun c' j1 j2 j3 => ?_⟩
    match c', j1, j2, j3 with
    | t' :: c', j1, j2, j3 =>
      have h2' : c'.length = d + 1 := by simpa using j2
      have hc' : c' ≠ [] := by intro e; rw [e] at h2'; simp at h2'
      have := h4 t' (gW_iff.mp j1).1 (gW_iff.mp j1).2.1 (gFin_walk (d + 1) C t' c' j1 h2' j3)
      by_cases e : t = t'
      · subst e
        refine Or.inr ⟨rfl, k4 c' ?_ h2' (by rw [← gLa_app (w := [t]) hc']; exact j3)⟩
        rcases (gW_iff.mp j1).2.2 with ⟨h5, _⟩ | ⟨_, h5⟩
        · exact absurd h5 hc'
        · exact h5
      · exact Or.inl (by omega)
end D24
