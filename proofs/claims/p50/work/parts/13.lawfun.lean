noncomputable section
def gk_fe : ga_F → ga_F → Bool
  | none, none => true
  | some none, some none => true
  | some (some a), some (some b) => Nat.beq a b
  | _, _ => false
def gk_fl : List ga_F → List ga_F → Bool
  | [], [] => true
  | a :: x, b :: y => gk_fe a b && gk_fl x y
  | _, _ => false
def gk_se : ga_Sh → ga_Sh → Bool
  | .inl a, .inl b => Nat.beq a.1 b.1 && gk_fl a.2 b.2
  | .inr a, .inr b => Nat.beq a.1 b.1 && Nat.beq a.2 b.2
  | _, _ => false
def gk_eq : ga_S → ga_S → Bool
  | [], [] => true
  | a :: x, b :: y => gk_se a b && gk_eq x y
  | _, _ => false
theorem gk_fe_eq : ∀ {a b : ga_F}, gk_fe a b = true → a = b
  | none, none, _ => rfl
  | some none, some none, _ => rfl
  | some (some a), some (some b), h => by
    have : Nat.beq a b = true := h
    rw [Nat.eq_of_beq_eq_true this]
  | none, some none, h => by cases h
  | none, some (some _), h => by cases h
  | some none, none, h => by cases h
  | some none, some (some _), h => by cases h
  | some (some _), none, h => by cases h
  | some (some _), some none, h => by cases h
theorem gk_fl_eq : ∀ {a b : List ga_F}, gk_fl a b = true → a = b
  | [], [], _ => rfl
  | a :: x, b :: y, h => by
    obtain ⟨h1, h2⟩ := Bool.and_eq_true_iff.mp (show (gk_fe a b && gk_fl x y) = true from h)
    rw [gk_fe_eq h1, gk_fl_eq h2]
  | [], _ :: _, h => by cases h
  | _ :: _, [], h => by cases h
theorem gk_se_eq : ∀ {a b : ga_Sh}, gk_se a b = true → a = b
  | .inl a, .inl b, h => by
    obtain ⟨h1, h2⟩ := Bool.and_eq_true_iff.mp (show (Nat.beq a.1 b.1 && gk_fl a.2 b.2) = true from h)
    exact congrArg Sum.inl (Prod.ext (Nat.eq_of_beq_eq_true h1) (gk_fl_eq h2))
  | .inr a, .inr b, h => by
    obtain ⟨h1, h2⟩ := Bool.and_eq_true_iff.mp (show (Nat.beq a.1 b.1 && Nat.beq a.2 b.2) = true from h)
    exact congrArg Sum.inr (Prod.ext (Nat.eq_of_beq_eq_true h1) (Nat.eq_of_beq_eq_true h2))
  | .inl _, .inr _, h => by cases h
  | .inr _, .inl _, h => by cases h
theorem gk_eq_eq : ∀ {a b : ga_S}, gk_eq a b = true → a = b
  | [], [], _ => rfl
  | a :: x, b :: y, h => by
    obtain ⟨h1, h2⟩ := Bool.and_eq_true_iff.mp (show (gk_se a b && gk_eq x y) = true from h)
    rw [gk_se_eq h1, gk_eq_eq h2]
  | [], _ :: _, h => by cases h
  | _ :: _, [], h => by cases h
def gkA_X7_init_1 : ga_S := [.inl (11, [some none, some none, some none, some none, some none, some none, some none, some none, some none, some none]), .inl (7, [none, none, none, none, none, none, none, some none, some none, some none, some none, some none, some none, some none, some none, some none])]
def gkB_X7_init_1 : ga_S := [.inl (11, [some none, some none, some none, some none, some none, some none, some none, some none, some none, some none]), .inl (7, [none, none, none, none, none, none, none, some (some 2), some (some 4), some (some 6), some (some 8), some (some 10), some (some 12), some (some 14), some (some 16), some (some 18)]), .inl (6, [some (some 3)]), .inr (0, 6), .inl (6, [some (some 5)]), .inr (0, 8), .inl (6, [some (some 7)]), .inr (0, 8), .inl (6, [some (some 9)]), .inr (0, 6), .inl (6, [some (some 11)]), .inr (0, 40), .inl (6, [some (some 13)]), .inr (0, 40), .inl (6, [some (some 15)]), .inr (0, 40), .inl (6, [some (some 17)]), .inr (0, 40), .inl (6, [some (some 19)]), .inr (0, 40)]
def gkA_X3_init_20 : ga_S := [.inl (11, [some (some 1), some none, some none, some none, some none, some none, some none, some none, some none, some none]), .inl (7, [none, none, none, none, none, none, none, some (some 2), some (some 4), some (some 6), some (some 8), some (some 10), some (some 12), some (some 14), some (some 16), some (some 18)]), .inl (6, [some (some 3)]), .inr (0, 6), .inl (6, [some (some 5)]), .inr (0, 8), .inl (6, [some (some 7)]), .inr (0, 8), .inl (6, [some (some 9)]), .inr (0, 6), .inl (6, [some (some 11)]), .inr (0, 40), .inl (6, [some (some 13)]), .inr (0, 40), .inl (6, [some (some 15)]), .inr (0, 40), .inl (6, [some (some 17)]), .inr (0, 40), .inl (6, [some (some 19)]), .inr (0, 40), .inl (3, [some none, some none, some none, some none, some none, some none])]
def gkB_X3_init_20 : ga_S := [.inl (11, [some (some 1), some none, some none, some none, some none, some none, some none, some none, some none, some none]), .inl (7, [none, none, none, none, none, none, none, some (some 2), some (some 4), some (some 6), some (some 8), some (some 10), some (some 12), some (some 14), some (some 16), some (some 18)]), .inl (6, [some (some 3)]), .inr (0, 6), .inl (6, [some (some 5)]), .inr (0, 8), .inl (6, [some (some 7)]), .inr (0, 8), .inl (6, [some (some 9)]), .inr (0, 6), .inl (6, [some (some 11)]), .inr (0, 40), .inl (6, [some (some 13)]), .inr (0, 40), .inl (6, [some (some 15)]), .inr (0, 40), .inl (6, [some (some 17)]), .inr (0, 40), .inl (6, [some (some 19)]), .inr (0, 40), .inl (3, [some (some 1), some (some 21), some (some 23), some (some 25), some (some 27), some (some 29)]), .inl (6, [some (some 22)]), .inr (0, 40), .inl (6, [some (some 24)]), .inr (0, 40), .inl (6, [some (some 26)]), .inr (0, 40), .inl (6, [some (some 28)]), .inr (0, 40), .inl (6, [some (some 30)]), .inr (0, 8)]
def gkA_X4_init_31 : ga_S := [.inl (11, [some (some 1), some (some 20), some none, some none, some none, some none, some none, some none, some none, some none]), .inl (7, [none, none, none, none, none, none, none, some (some 2), some (some 4), some (some 6), some (some 8), some (some 10), some (some 12), some (some 14), some (some 16), some (some 18)]), .inl (6, [some (some 3)]), .inr (0, 6), .inl (6, [some (some 5)]), .inr (0, 8), .inl (6, [some (some 7)]), .inr (0, 8), .inl (6, [some (some 9)]), .inr (0, 6), .inl (6, [some (some 11)]), .inr (0, 40), .inl (6, [some (some 13)]), .inr (0, 40), .inl (6, [some (some 15)]), .inr (0, 40), .inl (6, [some (some 17)]), .inr (0, 40), .inl (6, [some (some 19)]), .inr (0, 40), .inl (3, [some (some 1), some (some 21), some (some 23), some (some 25), some (some 27), some (some 29)]), .inl (6, [some (some 22)]), .inr (0, 40), .inl (6, [some (some 24)]), .inr (0, 40), .inl (6, [some (some 26)]), .inr (0, 40), .inl (6, [some (some 28)]), .inr (0, 40), .inl (6, [some (some 30)]), .inr (0, 8), .inl (4, [some none, some none])]
def gkB_X4_init_31 : ga_S := [.inl (11, [some (some 1), some (some 20), some none, some none, some none, some none, some none, some none, some none, some none]), .inl (7, [none, none, none, none, none, none, none, some (some 2), some (some 4), some (some 6), some (some 8), some (some 10), some (some 12), some (some 14), some (some 16), some (some 18)]), .inl (6, [some (some 3)]), .inr (0, 6), .inl (6, [some (some 5)]), .inr (0, 8), .inl (6, [some (some 7)]), .inr (0, 8), .inl (6, [some (some 9)]), .inr (0, 6), .inl (6, [some (some 11)]), .inr (0, 40), .inl (6, [some (some 13)]), .inr (0, 40), .inl (6, [some (some 15)]), .inr (0, 40), .inl (6, [some (some 17)]), .inr (0, 40), .inl (6, [some (some 19)]), .inr (0, 40), .inl (3, [some (some 1), some (some 21), some (some 23), some (some 25), some (some 27), some (some 29)]), .inl (6, [some (some 22)]), .inr (0, 40), .inl (6, [some (some 24)]), .inr (0, 40), .inl (6, [some (some 26)]), .inr (0, 40), .inl (6, [some (some 28)]), .inr (0, 40), .inl (6, [some (some 30)]), .inr (0, 8), .inl (4, [some (some 1), some (some 20)])]
def gkA_X0_init_32 : ga_S := [.inl (11, [some (some 1), some (some 20), some (some 31), some none, some none, some none, some none, some none, some none, some none]), .inl (7, [none, none, none, none, none, none, none, some (some 2), some (some 4), some (some 6), some (some 8), some (some 10), some (some 12), some (some 14), some (some 16), some (some 18)]), .inl (6, [some (some 3)]), .inr (0, 6), .inl (6, [some (some 5)]), .inr (0, 8), .inl (6, [some (some 7)]), .inr (0, 8), .inl (6, [some (some 9)]), .inr (0, 6), .inl (6, [some (some 11)]), .inr (0, 40), .inl (6, [some (some 13)]), .inr (0, 40), .inl (6, [some (some 15)]), .inr (0, 40), .inl (6, [some (some 17)]), .inr (0, 40), .inl (6, [some (some 19)]), .inr (0, 40), .inl (3, [some (some 1), some (some 21), some (some 23), some (some 25), some (some 27), some (some 29)]), .inl (6, [some (some 22)]), .inr (0, 40), .inl (6, [some (some 24)]), .inr (0, 40), .inl (6, [some (some 26)]), .inr (0, 40), .inl (6, [some (some 28)]), .inr (0, 40), .inl (6, [some (some 30)]), .inr (0, 8), .inl (4, [some (some 1), some (some 20)]), .inl (0, [some none, some none, some none, some none, some none, some none, none])]
def gkB_X0_init_32 : ga_S := [.inl (11, [some (some 1), some (some 20), some (some 31), some none, some none, some none, some none, some none, some none, some none]), .inl (7, [none, none, none, none, none, none, none, some (some 2), some (some 4), some (some 6), some (some 8), some (some 10), some (some 12), some (some 14), some (some 16), some (some 18)]), .inl (6, [some (some 3)]), .inr (0, 6), .inl (6, [some (some 5)]), .inr (0, 8), .inl (6, [some (some 7)]), .inr (0, 8), .inl (6, [some (some 9)]), .inr (0, 6), .inl (6, [some (some 11)]), .inr (0, 40), .inl (6, [some (some 13)]), .inr (0, 40), .inl (6, [some (some 15)]), .inr (0, 40), .inl (6, [some (some 17)]), .inr (0, 40), .inl (6, [some (some 19)]), .inr (0, 40), .inl (3, [some (some 1), some (some 21), some (some 23), some (some 25), some (some 27), some (some 29)]), .inl (6, [some (some 22)]), .inr (0, 40), .inl (6, [some (some 24)]), .inr (0, 40), .inl (6, [some (some 26)]), .inr (0, 40), .inl (6, [some (some 28)]), .inr (0, 40), .inl (6, [some (some 30)]), .inr (0, 8), .inl (4, [some (some 1), some (some 20)]), .inl (0, [some (some 1), some (some 20), some (some 33), some (some 35), some (some 37), some (some 39), none]), .inl (6, [some (some 34)]), .inr (0, 8), .inl (6, [some (some 36)]), .inr (0, 4), .inl (6, [some (some 38)]), .inr (0, 4), .inl (6, [some (some 40)]), .inr (0, 4)]
def gkA_X2_init_41 : ga_S := [.inl (11, [some (some 1), some (some 20), some (some 31), some (some 32), some none, some none, some none, some none, some none, some none]), .inl (7, [none, none, none, none, none, none, none, some (some 2), some (some 4), some (some 6), some (some 8), some (some 10), some (some 12), some (some 14), some (some 16), some (some 18)]), .inl (6, [some (some 3)]), .inr (0, 6), .inl (6, [some (some 5)]), .inr (0, 8), .inl (6, [some (some 7)]), .inr (0, 8), .inl (6, [some (some 9)]), .inr (0, 6), .inl (6, [some (some 11)]), .inr (0, 40), .inl (6, [some (some 13)]), .inr (0, 40), .inl (6, [some (some 15)]), .inr (0, 40), .inl (6, [some (some 17)]), .inr (0, 40), .inl (6, [some (some 19)]), .inr (0, 40), .inl (3, [some (some 1), some (some 21), some (some 23), some (some 25), some (some 27), some (some 29)]), .inl (6, [some (some 22)]), .inr (0, 40), .inl (6, [some (some 24)]), .inr (0, 40), .inl (6, [some (some 26)]), .inr (0, 40), .inl (6, [some (some 28)]), .inr (0, 40), .inl (6, [some (some 30)]), .inr (0, 8), .inl (4, [some (some 1), some (some 20)]), .inl (0, [some (some 1), some (some 20), some (some 33), some (some 35), some (some 37), some (some 39), none]), .inl (6, [some (some 34)]), .inr (0, 8), .inl (6, [some (some 36)]), .inr (0, 4), .inl (6, [some (some 38)]), .inr (0, 4), .inl (6, [some (some 40)]), .inr (0, 4), .inl (2, [some none, some none, some none, some none])]
def gkB_X2_init_41 : ga_S := [.inl (11, [some (some 1), some (some 20), some (some 31), some (some 32), some none, some none, some none, some none, some none, some none]), .inl (7, [none, none, none, none, none, none, none, some (some 2), some (some 4), some (some 6), some (some 8), some (some 10), some (some 12), some (some 14), some (some 16), some (some 18)]), .inl (6, [some (some 3)]), .inr (0, 6), .inl (6, [some (some 5)]), .inr (0, 8), .inl (6, [some (some 7)]), .inr (0, 8), .inl (6, [some (some 9)]), .inr (0, 6), .inl (6, [some (some 11)]), .inr (0, 40), .inl (6, [some (some 13)]), .inr (0, 40), .inl (6, [some (some 15)]), .inr (0, 40), .inl (6, [some (some 17)]), .inr (0, 40), .inl (6, [some (some 19)]), .inr (0, 40), .inl (3, [some (some 1), some (some 21), some (some 23), some (some 25), some (some 27), some (some 29)]), .inl (6, [some (some 22)]), .inr (0, 40), .inl (6, [some (some 24)]), .inr (0, 40), .inl (6, [some (some 26)]), .inr (0, 40), .inl (6, [some (some 28)]), .inr (0, 40), .inl (6, [some (some 30)]), .inr (0, 8), .inl (4, [some (some 1), some (some 20)]), .inl (0, [some (some 1), some (some 20), some (some 33), some (some 35), some (some 37), some (some 39), none]), .inl (6, [some (some 34)]), .inr (0, 8), .inl (6, [some (some 36)]), .inr (0, 4), .inl (6, [some (some 38)]), .inr (0, 4), .inl (6, [some (some 40)]), .inr (0, 4), .inl (2, [some (some 1), some (some 20), some (some 31), some (some 32)])]
def gkA_X1_init_42 : ga_S := [.inl (11, [some (some 1), some (some 20), some (some 31), some (some 32), some (some 41), some none, some none, some none, some none, some none]), .inl (7, [none, none, none, none, none, none, none, some (some 2), some (some 4), some (some 6), some (some 8), some (some 10), some (some 12), some (some 14), some (some 16), some (some 18)]), .inl (6, [some (some 3)]), .inr (0, 6), .inl (6, [some (some 5)]), .inr (0, 8), .inl (6, [some (some 7)]), .inr (0, 8), .inl (6, [some (some 9)]), .inr (0, 6), .inl (6, [some (some 11)]), .inr (0, 40), .inl (6, [some (some 13)]), .inr (0, 40), .inl (6, [some (some 15)]), .inr (0, 40), .inl (6, [some (some 17)]), .inr (0, 40), .inl (6, [some (some 19)]), .inr (0, 40), .inl (3, [some (some 1), some (some 21), some (some 23), some (some 25), some (some 27), some (some 29)]), .inl (6, [some (some 22)]), .inr (0, 40), .inl (6, [some (some 24)]), .inr (0, 40), .inl (6, [some (some 26)]), .inr (0, 40), .inl (6, [some (some 28)]), .inr (0, 40), .inl (6, [some (some 30)]), .inr (0, 8), .inl (4, [some (some 1), some (some 20)]), .inl (0, [some (some 1), some (some 20), some (some 33), some (some 35), some (some 37), some (some 39), none]), .inl (6, [some (some 34)]), .inr (0, 8), .inl (6, [some (some 36)]), .inr (0, 4), .inl (6, [some (some 38)]), .inr (0, 4), .inl (6, [some (some 40)]), .inr (0, 4), .inl (2, [some (some 1), some (some 20), some (some 31), some (some 32)]), .inl (1, [some none, some none, none, none])]
def gkB_X1_init_42 : ga_S := [.inl (11, [some (some 1), some (some 20), some (some 31), some (some 32), some (some 41), some none, some none, some none, some none, some none]), .inl (7, [none, none, none, none, none, none, none, some (some 2), some (some 4), some (some 6), some (some 8), some (some 10), some (some 12), some (some 14), some (some 16), some (some 18)]), .inl (6, [some (some 3)]), .inr (0, 6), .inl (6, [some (some 5)]), .inr (0, 8), .inl (6, [some (some 7)]), .inr (0, 8), .inl (6, [some (some 9)]), .inr (0, 6), .inl (6, [some (some 11)]), .inr (0, 40), .inl (6, [some (some 13)]), .inr (0, 40), .inl (6, [some (some 15)]), .inr (0, 40), .inl (6, [some (some 17)]), .inr (0, 40), .inl (6, [some (some 19)]), .inr (0, 40), .inl (3, [some (some 1), some (some 21), some (some 23), some (some 25), some (some 27), some (some 29)]), .inl (6, [some (some 22)]), .inr (0, 40), .inl (6, [some (some 24)]), .inr (0, 40), .inl (6, [some (some 26)]), .inr (0, 40), .inl (6, [some (some 28)]), .inr (0, 40), .inl (6, [some (some 30)]), .inr (0, 8), .inl (4, [some (some 1), some (some 20)]), .inl (0, [some (some 1), some (some 20), some (some 33), some (some 35), some (some 37), some (some 39), none]), .inl (6, [some (some 34)]), .inr (0, 8), .inl (6, [some (some 36)]), .inr (0, 4), .inl (6, [some (some 38)]), .inr (0, 4), .inl (6, [some (some 40)]), .inr (0, 4), .inl (2, [some (some 1), some (some 20), some (some 31), some (some 32)]), .inl (1, [some (some 20), some (some 43), none, none]), .inl (6, [some (some 44)]), .inr (0, 1848)]
def gkA_X10_init_45 : ga_S := [.inl (11, [some (some 1), some (some 20), some (some 31), some (some 32), some (some 41), some (some 42), some none, some none, some none, some none]), .inl (7, [none, none, none, none, none, none, none, some (some 2), some (some 4), some (some 6), some (some 8), some (some 10), some (some 12), some (some 14), some (some 16), some (some 18)]), .inl (6, [some (some 3)]), .inr (0, 6), .inl (6, [some (some 5)]), .inr (0, 8), .inl (6, [some (some 7)]), .inr (0, 8), .inl (6, [some (some 9)]), .inr (0, 6), .inl (6, [some (some 11)]), .inr (0, 40), .inl (6, [some (some 13)]), .inr (0, 40), .inl (6, [some (some 15)]), .inr (0, 40), .inl (6, [some (some 17)]), .inr (0, 40), .inl (6, [some (some 19)]), .inr (0, 40), .inl (3, [some (some 1), some (some 21), some (some 23), some (some 25), some (some 27), some (some 29)]), .inl (6, [some (some 22)]), .inr (0, 40), .inl (6, [some (some 24)]), .inr (0, 40), .inl (6, [some (some 26)]), .inr (0, 40), .inl (6, [some (some 28)]), .inr (0, 40), .inl (6, [some (some 30)]), .inr (0, 8), .inl (4, [some (some 1), some (some 20)]), .inl (0, [some (some 1), some (some 20), some (some 33), some (some 35), some (some 37), some (some 39), none]), .inl (6, [some (some 34)]), .inr (0, 8), .inl (6, [some (some 36)]), .inr (0, 4), .inl (6, [some (some 38)]), .inr (0, 4), .inl (6, [some (some 40)]), .inr (0, 4), .inl (2, [some (some 1), some (some 20), some (some 31), some (some 32)]), .inl (1, [some (some 20), some (some 43), none, none]), .inl (6, [some (some 44)]), .inr (0, 1848), .inl (10, [some none, none, none, none, none, none, none, none])]
def gkB_X10_init_45 : ga_S := [.inl (11, [some (some 1), some (some 20), some (some 31), some (some 32), some (some 41), some (some 42), some none, some none, some none, some none]), .inl (7, [none, none, none, none, none, none, none, some (some 2), some (some 4), some (some 6), some (some 8), some (some 10), some (some 12), some (some 14), some (some 16), some (some 18)]), .inl (6, [some (some 3)]), .inr (0, 6), .inl (6, [some (some 5)]), .inr (0, 8), .inl (6, [some (some 7)]), .inr (0, 8), .inl (6, [some (some 9)]), .inr (0, 6), .inl (6, [some (some 11)]), .inr (0, 40), .inl (6, [some (some 13)]), .inr (0, 40), .inl (6, [some (some 15)]), .inr (0, 40), .inl (6, [some (some 17)]), .inr (0, 40), .inl (6, [some (some 19)]), .inr (0, 40), .inl (3, [some (some 1), some (some 21), some (some 23), some (some 25), some (some 27), some (some 29)]), .inl (6, [some (some 22)]), .inr (0, 40), .inl (6, [some (some 24)]), .inr (0, 40), .inl (6, [some (some 26)]), .inr (0, 40), .inl (6, [some (some 28)]), .inr (0, 40), .inl (6, [some (some 30)]), .inr (0, 8), .inl (4, [some (some 1), some (some 20)]), .inl (0, [some (some 1), some (some 20), some (some 33), some (some 35), some (some 37), some (some 39), none]), .inl (6, [some (some 34)]), .inr (0, 8), .inl (6, [some (some 36)]), .inr (0, 4), .inl (6, [some (some 38)]), .inr (0, 4), .inl (6, [some (some 40)]), .inr (0, 4), .inl (2, [some (some 1), some (some 20), some (some 31), some (some 32)]), .inl (1, [some (some 20), some (some 43), none, none]), .inl (6, [some (some 44)]), .inr (0, 1848), .inl (10, [some (some 46), none, none, none, none, none, none, none]), .inl (6, [some (some 47)]), .inr (0, 900)]
def gkA_X7_init_49 : ga_S := [.inl (11, [some (some 1), some (some 20), some (some 31), some (some 32), some (some 41), some (some 42), some (some 45), some none, some none, some none]), .inl (7, [none, none, none, none, none, none, none, some (some 2), some (some 4), some (some 6), some (some 8), some (some 10), some (some 12), some (some 14), some (some 16), some (some 18)]), .inl (6, [some (some 3)]), .inr (0, 6), .inl (6, [some (some 5)]), .inr (0, 8), .inl (6, [some (some 7)]), .inr (0, 8), .inl (6, [some (some 9)]), .inr (0, 6), .inl (6, [some (some 11)]), .inr (0, 40), .inl (6, [some (some 13)]), .inr (0, 40), .inl (6, [some (some 15)]), .inr (0, 40), .inl (6, [some (some 17)]), .inr (0, 40), .inl (6, [some (some 19)]), .inr (0, 40), .inl (3, [some (some 1), some (some 21), some (some 23), some (some 25), some (some 27), some (some 29)]), .inl (6, [some (some 22)]), .inr (0, 40), .inl (6, [some (some 24)]), .inr (0, 40), .inl (6, [some (some 26)]), .inr (0, 40), .inl (6, [some (some 28)]), .inr (0, 40), .inl (6, [some (some 30)]), .inr (0, 8), .inl (4, [some (some 1), some (some 20)]), .inl (0, [some (some 1), some (some 20), some (some 33), some (some 35), some (some 37), some (some 39), none]), .inl (6, [some (some 34)]), .inr (0, 8), .inl (6, [some (some 36)]), .inr (0, 4), .inl (6, [some (some 38)]), .inr (0, 4), .inl (6, [some (some 40)]), .inr (0, 4), .inl (2, [some (some 1), some (some 20), some (some 31), some (some 32)]), .inl (1, [some (some 20), some (some 43), none, none]), .inl (6, [some (some 44)]), .inr (0, 1848), .inl (10, [some (some 46), none, none, none, none, none, none, none]), .inl (6, [some (some 47)]), .inr (0, 900), .inl (8, [some none, some none]), .inl (7, [none, none, none, none, none, none, none, some none, some none, some none, some none, some none, some none, some none, some none, some none])]
def gkB_X7_init_49 : ga_S := [.inl (11, [some (some 1), some (some 20), some (some 31), some (some 32), some (some 41), some (some 42), some (some 45), some none, some none, some none]), .inl (7, [none, none, none, none, none, none, none, some (some 2), some (some 4), some (some 6), some (some 8), some (some 10), some (some 12), some (some 14), some (some 16), some (some 18)]), .inl (6, [some (some 3)]), .inr (0, 6), .inl (6, [some (some 5)]), .inr (0, 8), .inl (6, [some (some 7)]), .inr (0, 8), .inl (6, [some (some 9)]), .inr (0, 6), .inl (6, [some (some 11)]), .inr (0, 40), .inl (6, [some (some 13)]), .inr (0, 40), .inl (6, [some (some 15)]), .inr (0, 40), .inl (6, [some (some 17)]), .inr (0, 40), .inl (6, [some (some 19)]), .inr (0, 40), .inl (3, [some (some 1), some (some 21), some (some 23), some (some 25), some (some 27), some (some 29)]), .inl (6, [some (some 22)]), .inr (0, 40), .inl (6, [some (some 24)]), .inr (0, 40), .inl (6, [some (some 26)]), .inr (0, 40), .inl (6, [some (some 28)]), .inr (0, 40), .inl (6, [some (some 30)]), .inr (0, 8), .inl (4, [some (some 1), some (some 20)]), .inl (0, [some (some 1), some (some 20), some (some 33), some (some 35), some (some 37), some (some 39), none]), .inl (6, [some (some 34)]), .inr (0, 8), .inl (6, [some (some 36)]), .inr (0, 4), .inl (6, [some (some 38)]), .inr (0, 4), .inl (6, [some (some 40)]), .inr (0, 4), .inl (2, [some (some 1), some (some 20), some (some 31), some (some 32)]), .inl (1, [some (some 20), some (some 43), none, none]), .inl (6, [some (some 44)]), .inr (0, 1848), .inl (10, [some (some 46), none, none, none, none, none, none, none]), .inl (6, [some (some 47)]), .inr (0, 900), .inl (8, [some none, some none]), .inl (7, [none, none, none, none, none, none, none, some (some 50), some (some 52), some (some 54), some (some 56), some (some 58), some (some 60), some (some 62), some (some 64), some (some 66)]), .inl (6, [some (some 51)]), .inr (0, 6), .inl (6, [some (some 53)]), .inr (0, 8), .inl (6, [some (some 55)]), .inr (0, 8), .inl (6, [some (some 57)]), .inr (0, 6), .inl (6, [some (some 59)]), .inr (0, 40), .inl (6, [some (some 61)]), .inr (0, 40), .inl (6, [some (some 63)]), .inr (0, 40), .inl (6, [some (some 65)]), .inr (0, 40), .inl (6, [some (some 67)]), .inr (0, 40)]
def gkA_X8_init_48 : ga_S := [.inl (11, [some (some 1), some (some 20), some (some 31), some (some 32), some (some 41), some (some 42), some (some 45), some none, some none, some none]), .inl (7, [none, none, none, none, none, none, none, some (some 2), some (some 4), some (some 6), some (some 8), some (some 10), some (some 12), some (some 14), some (some 16), some (some 18)]), .inl (6, [some (some 3)]), .inr (0, 6), .inl (6, [some (some 5)]), .inr (0, 8), .inl (6, [some (some 7)]), .inr (0, 8), .inl (6, [some (some 9)]), .inr (0, 6), .inl (6, [some (some 11)]), .inr (0, 40), .inl (6, [some (some 13)]), .inr (0, 40), .inl (6, [some (some 15)]), .inr (0, 40), .inl (6, [some (some 17)]), .inr (0, 40), .inl (6, [some (some 19)]), .inr (0, 40), .inl (3, [some (some 1), some (some 21), some (some 23), some (some 25), some (some 27), some (some 29)]), .inl (6, [some (some 22)]), .inr (0, 40), .inl (6, [some (some 24)]), .inr (0, 40), .inl (6, [some (some 26)]), .inr (0, 40), .inl (6, [some (some 28)]), .inr (0, 40), .inl (6, [some (some 30)]), .inr (0, 8), .inl (4, [some (some 1), some (some 20)]), .inl (0, [some (some 1), some (some 20), some (some 33), some (some 35), some (some 37), some (some 39), none]), .inl (6, [some (some 34)]), .inr (0, 8), .inl (6, [some (some 36)]), .inr (0, 4), .inl (6, [some (some 38)]), .inr (0, 4), .inl (6, [some (some 40)]), .inr (0, 4), .inl (2, [some (some 1), some (some 20), some (some 31), some (some 32)]), .inl (1, [some (some 20), some (some 43), none, none]), .inl (6, [some (some 44)]), .inr (0, 1848), .inl (10, [some (some 46), none, none, none, none, none, none, none]), .inl (6, [some (some 47)]), .inr (0, 900), .inl (8, [some none, some none])]
def gkB_X8_init_48 : ga_S := [.inl (11, [some (some 1), some (some 20), some (some 31), some (some 32), some (some 41), some (some 42), some (some 45), some none, some none, some none]), .inl (7, [none, none, none, none, none, none, none, some (some 2), some (some 4), some (some 6), some (some 8), some (some 10), some (some 12), some (some 14), some (some 16), some (some 18)]), .inl (6, [some (some 3)]), .inr (0, 6), .inl (6, [some (some 5)]), .inr (0, 8), .inl (6, [some (some 7)]), .inr (0, 8), .inl (6, [some (some 9)]), .inr (0, 6), .inl (6, [some (some 11)]), .inr (0, 40), .inl (6, [some (some 13)]), .inr (0, 40), .inl (6, [some (some 15)]), .inr (0, 40), .inl (6, [some (some 17)]), .inr (0, 40), .inl (6, [some (some 19)]), .inr (0, 40), .inl (3, [some (some 1), some (some 21), some (some 23), some (some 25), some (some 27), some (some 29)]), .inl (6, [some (some 22)]), .inr (0, 40), .inl (6, [some (some 24)]), .inr (0, 40), .inl (6, [some (some 26)]), .inr (0, 40), .inl (6, [some (some 28)]), .inr (0, 40), .inl (6, [some (some 30)]), .inr (0, 8), .inl (4, [some (some 1), some (some 20)]), .inl (0, [some (some 1), some (some 20), some (some 33), some (some 35), some (some 37), some (some 39), none]), .inl (6, [some (some 34)]), .inr (0, 8), .inl (6, [some (some 36)]), .inr (0, 4), .inl (6, [some (some 38)]), .inr (0, 4), .inl (6, [some (some 40)]), .inr (0, 4), .inl (2, [some (some 1), some (some 20), some (some 31), some (some 32)]), .inl (1, [some (some 20), some (some 43), none, none]), .inl (6, [some (some 44)]), .inr (0, 1848), .inl (10, [some (some 46), none, none, none, none, none, none, none]), .inl (6, [some (some 47)]), .inr (0, 900), .inl (8, [some (some 45), some (some 49)]), .inl (7, [none, none, none, none, none, none, none, some (some 50), some (some 52), some (some 54), some (some 56), some (some 58), some (some 60), some (some 62), some (some 64), some (some 66)]), .inl (6, [some (some 51)]), .inr (0, 6), .inl (6, [some (some 53)]), .inr (0, 8), .inl (6, [some (some 55)]), .inr (0, 8), .inl (6, [some (some 57)]), .inr (0, 6), .inl (6, [some (some 59)]), .inr (0, 40), .inl (6, [some (some 61)]), .inr (0, 40), .inl (6, [some (some 63)]), .inr (0, 40), .inl (6, [some (some 65)]), .inr (0, 40), .inl (6, [some (some 67)]), .inr (0, 40)]
def gkA_X9_init_68 : ga_S := [.inl (11, [some (some 1), some (some 20), some (some 31), some (some 32), some (some 41), some (some 42), some (some 45), some (some 48), some none, some none]), .inl (7, [none, none, none, none, none, none, none, some (some 2), some (some 4), some (some 6), some (some 8), some (some 10), some (some 12), some (some 14), some (some 16), some (some 18)]), .inl (6, [some (some 3)]), .inr (0, 6), .inl (6, [some (some 5)]), .inr (0, 8), .inl (6, [some (some 7)]), .inr (0, 8), .inl (6, [some (some 9)]), .inr (0, 6), .inl (6, [some (some 11)]), .inr (0, 40), .inl (6, [some (some 13)]), .inr (0, 40), .inl (6, [some (some 15)]), .inr (0, 40), .inl (6, [some (some 17)]), .inr (0, 40), .inl (6, [some (some 19)]), .inr (0, 40), .inl (3, [some (some 1), some (some 21), some (some 23), some (some 25), some (some 27), some (some 29)]), .inl (6, [some (some 22)]), .inr (0, 40), .inl (6, [some (some 24)]), .inr (0, 40), .inl (6, [some (some 26)]), .inr (0, 40), .inl (6, [some (some 28)]), .inr (0, 40), .inl (6, [some (some 30)]), .inr (0, 8), .inl (4, [some (some 1), some (some 20)]), .inl (0, [some (some 1), some (some 20), some (some 33), some (some 35), some (some 37), some (some 39), none]), .inl (6, [some (some 34)]), .inr (0, 8), .inl (6, [some (some 36)]), .inr (0, 4), .inl (6, [some (some 38)]), .inr (0, 4), .inl (6, [some (some 40)]), .inr (0, 4), .inl (2, [some (some 1), some (some 20), some (some 31), some (some 32)]), .inl (1, [some (some 20), some (some 43), none, none]), .inl (6, [some (some 44)]), .inr (0, 1848), .inl (10, [some (some 46), none, none, none, none, none, none, none]), .inl (6, [some (some 47)]), .inr (0, 900), .inl (8, [some (some 45), some (some 49)]), .inl (7, [none, none, none, none, none, none, none, some (some 50), some (some 52), some (some 54), some (some 56), some (some 58), some (some 60), some (some 62), some (some 64), some (some 66)]), .inl (6, [some (some 51)]), .inr (0, 6), .inl (6, [some (some 53)]), .inr (0, 8), .inl (6, [some (some 55)]), .inr (0, 8), .inl (6, [some (some 57)]), .inr (0, 6), .inl (6, [some (some 59)]), .inr (0, 40), .inl (6, [some (some 61)]), .inr (0, 40), .inl (6, [some (some 63)]), .inr (0, 40), .inl (6, [some (some 65)]), .inr (0, 40), .inl (6, [some (some 67)]), .inr (0, 40), .inl (9, [some none, none, none, none, none])]
def gkB_X9_init_68 : ga_S := [.inl (11, [some (some 1), some (some 20), some (some 31), some (some 32), some (some 41), some (some 42), some (some 45), some (some 48), some none, some none]), .inl (7, [none, none, none, none, none, none, none, some (some 2), some (some 4), some (some 6), some (some 8), some (some 10), some (some 12), some (some 14), some (some 16), some (some 18)]), .inl (6, [some (some 3)]), .inr (0, 6), .inl (6, [some (some 5)]), .inr (0, 8), .inl (6, [some (some 7)]), .inr (0, 8), .inl (6, [some (some 9)]), .inr (0, 6), .inl (6, [some (some 11)]), .inr (0, 40), .inl (6, [some (some 13)]), .inr (0, 40), .inl (6, [some (some 15)]), .inr (0, 40), .inl (6, [some (some 17)]), .inr (0, 40), .inl (6, [some (some 19)]), .inr (0, 40), .inl (3, [some (some 1), some (some 21), some (some 23), some (some 25), some (some 27), some (some 29)]), .inl (6, [some (some 22)]), .inr (0, 40), .inl (6, [some (some 24)]), .inr (0, 40), .inl (6, [some (some 26)]), .inr (0, 40), .inl (6, [some (some 28)]), .inr (0, 40), .inl (6, [some (some 30)]), .inr (0, 8), .inl (4, [some (some 1), some (some 20)]), .inl (0, [some (some 1), some (some 20), some (some 33), some (some 35), some (some 37), some (some 39), none]), .inl (6, [some (some 34)]), .inr (0, 8), .inl (6, [some (some 36)]), .inr (0, 4), .inl (6, [some (some 38)]), .inr (0, 4), .inl (6, [some (some 40)]), .inr (0, 4), .inl (2, [some (some 1), some (some 20), some (some 31), some (some 32)]), .inl (1, [some (some 20), some (some 43), none, none]), .inl (6, [some (some 44)]), .inr (0, 1848), .inl (10, [some (some 46), none, none, none, none, none, none, none]), .inl (6, [some (some 47)]), .inr (0, 900), .inl (8, [some (some 45), some (some 49)]), .inl (7, [none, none, none, none, none, none, none, some (some 50), some (some 52), some (some 54), some (some 56), some (some 58), some (some 60), some (some 62), some (some 64), some (some 66)]), .inl (6, [some (some 51)]), .inr (0, 6), .inl (6, [some (some 53)]), .inr (0, 8), .inl (6, [some (some 55)]), .inr (0, 8), .inl (6, [some (some 57)]), .inr (0, 6), .inl (6, [some (some 59)]), .inr (0, 40), .inl (6, [some (some 61)]), .inr (0, 40), .inl (6, [some (some 63)]), .inr (0, 40), .inl (6, [some (some 65)]), .inr (0, 40), .inl (6, [some (some 67)]), .inr (0, 40), .inl (9, [some (some 45), none, none, none, none])]
def gkA_X5_init_69 : ga_S := [.inl (11, [some (some 1), some (some 20), some (some 31), some (some 32), some (some 41), some (some 42), some (some 45), some (some 48), some (some 68), some none]), .inl (7, [none, none, none, none, none, none, none, some (some 2), some (some 4), some (some 6), some (some 8), some (some 10), some (some 12), some (some 14), some (some 16), some (some 18)]), .inl (6, [some (some 3)]), .inr (0, 6), .inl (6, [some (some 5)]), .inr (0, 8), .inl (6, [some (some 7)]), .inr (0, 8), .inl (6, [some (some 9)]), .inr (0, 6), .inl (6, [some (some 11)]), .inr (0, 40), .inl (6, [some (some 13)]), .inr (0, 40), .inl (6, [some (some 15)]), .inr (0, 40), .inl (6, [some (some 17)]), .inr (0, 40), .inl (6, [some (some 19)]), .inr (0, 40), .inl (3, [some (some 1), some (some 21), some (some 23), some (some 25), some (some 27), some (some 29)]), .inl (6, [some (some 22)]), .inr (0, 40), .inl (6, [some (some 24)]), .inr (0, 40), .inl (6, [some (some 26)]), .inr (0, 40), .inl (6, [some (some 28)]), .inr (0, 40), .inl (6, [some (some 30)]), .inr (0, 8), .inl (4, [some (some 1), some (some 20)]), .inl (0, [some (some 1), some (some 20), some (some 33), some (some 35), some (some 37), some (some 39), none]), .inl (6, [some (some 34)]), .inr (0, 8), .inl (6, [some (some 36)]), .inr (0, 4), .inl (6, [some (some 38)]), .inr (0, 4), .inl (6, [some (some 40)]), .inr (0, 4), .inl (2, [some (some 1), some (some 20), some (some 31), some (some 32)]), .inl (1, [some (some 20), some (some 43), none, none]), .inl (6, [some (some 44)]), .inr (0, 1848), .inl (10, [some (some 46), none, none, none, none, none, none, none]), .inl (6, [some (some 47)]), .inr (0, 900), .inl (8, [some (some 45), some (some 49)]), .inl (7, [none, none, none, none, none, none, none, some (some 50), some (some 52), some (some 54), some (some 56), some (some 58), some (some 60), some (some 62), some (some 64), some (some 66)]), .inl (6, [some (some 51)]), .inr (0, 6), .inl (6, [some (some 53)]), .inr (0, 8), .inl (6, [some (some 55)]), .inr (0, 8), .inl (6, [some (some 57)]), .inr (0, 6), .inl (6, [some (some 59)]), .inr (0, 40), .inl (6, [some (some 61)]), .inr (0, 40), .inl (6, [some (some 63)]), .inr (0, 40), .inl (6, [some (some 65)]), .inr (0, 40), .inl (6, [some (some 67)]), .inr (0, 40), .inl (9, [some (some 45), none, none, none, none]), .inl (5, [some none, some none, some none, none])]
def gkB_X5_init_69 : ga_S := [.inl (11, [some (some 1), some (some 20), some (some 31), some (some 32), some (some 41), some (some 42), some (some 45), some (some 48), some (some 68), some none]), .inl (7, [none, none, none, none, none, none, none, some (some 2), some (some 4), some (some 6), some (some 8), some (some 10), some (some 12), some (some 14), some (some 16), some (some 18)]), .inl (6, [some (some 3)]), .inr (0, 6), .inl (6, [some (some 5)]), .inr (0, 8), .inl (6, [some (some 7)]), .inr (0, 8), .inl (6, [some (some 9)]), .inr (0, 6), .inl (6, [some (some 11)]), .inr (0, 40), .inl (6, [some (some 13)]), .inr (0, 40), .inl (6, [some (some 15)]), .inr (0, 40), .inl (6, [some (some 17)]), .inr (0, 40), .inl (6, [some (some 19)]), .inr (0, 40), .inl (3, [some (some 1), some (some 21), some (some 23), some (some 25), some (some 27), some (some 29)]), .inl (6, [some (some 22)]), .inr (0, 40), .inl (6, [some (some 24)]), .inr (0, 40), .inl (6, [some (some 26)]), .inr (0, 40), .inl (6, [some (some 28)]), .inr (0, 40), .inl (6, [some (some 30)]), .inr (0, 8), .inl (4, [some (some 1), some (some 20)]), .inl (0, [some (some 1), some (some 20), some (some 33), some (some 35), some (some 37), some (some 39), none]), .inl (6, [some (some 34)]), .inr (0, 8), .inl (6, [some (some 36)]), .inr (0, 4), .inl (6, [some (some 38)]), .inr (0, 4), .inl (6, [some (some 40)]), .inr (0, 4), .inl (2, [some (some 1), some (some 20), some (some 31), some (some 32)]), .inl (1, [some (some 20), some (some 43), none, none]), .inl (6, [some (some 44)]), .inr (0, 1848), .inl (10, [some (some 46), none, none, none, none, none, none, none]), .inl (6, [some (some 47)]), .inr (0, 900), .inl (8, [some (some 45), some (some 49)]), .inl (7, [none, none, none, none, none, none, none, some (some 50), some (some 52), some (some 54), some (some 56), some (some 58), some (some 60), some (some 62), some (some 64), some (some 66)]), .inl (6, [some (some 51)]), .inr (0, 6), .inl (6, [some (some 53)]), .inr (0, 8), .inl (6, [some (some 55)]), .inr (0, 8), .inl (6, [some (some 57)]), .inr (0, 6), .inl (6, [some (some 59)]), .inr (0, 40), .inl (6, [some (some 61)]), .inr (0, 40), .inl (6, [some (some 63)]), .inr (0, 40), .inl (6, [some (some 65)]), .inr (0, 40), .inl (6, [some (some 67)]), .inr (0, 40), .inl (9, [some (some 45), none, none, none, none]), .inl (5, [some (some 1), some (some 20), some (some 70), none]), .inl (6, [some (some 71)]), .inr (0, 150)]
def gkA_X11_init_0 : ga_S := [.inl (11, [some none, some none, some none, some none, some none, some none, some none, some none, some none, some none])]
def gkB_X11_init_0 : ga_S := [.inl (11, [some (some 1), some (some 20), some (some 31), some (some 32), some (some 41), some (some 42), some (some 45), some (some 48), some (some 68), some (some 69)]), .inl (7, [none, none, none, none, none, none, none, some (some 2), some (some 4), some (some 6), some (some 8), some (some 10), some (some 12), some (some 14), some (some 16), some (some 18)]), .inl (6, [some (some 3)]), .inr (0, 6), .inl (6, [some (some 5)]), .inr (0, 8), .inl (6, [some (some 7)]), .inr (0, 8), .inl (6, [some (some 9)]), .inr (0, 6), .inl (6, [some (some 11)]), .inr (0, 40), .inl (6, [some (some 13)]), .inr (0, 40), .inl (6, [some (some 15)]), .inr (0, 40), .inl (6, [some (some 17)]), .inr (0, 40), .inl (6, [some (some 19)]), .inr (0, 40), .inl (3, [some (some 1), some (some 21), some (some 23), some (some 25), some (some 27), some (some 29)]), .inl (6, [some (some 22)]), .inr (0, 40), .inl (6, [some (some 24)]), .inr (0, 40), .inl (6, [some (some 26)]), .inr (0, 40), .inl (6, [some (some 28)]), .inr (0, 40), .inl (6, [some (some 30)]), .inr (0, 8), .inl (4, [some (some 1), some (some 20)]), .inl (0, [some (some 1), some (some 20), some (some 33), some (some 35), some (some 37), some (some 39), none]), .inl (6, [some (some 34)]), .inr (0, 8), .inl (6, [some (some 36)]), .inr (0, 4), .inl (6, [some (some 38)]), .inr (0, 4), .inl (6, [some (some 40)]), .inr (0, 4), .inl (2, [some (some 1), some (some 20), some (some 31), some (some 32)]), .inl (1, [some (some 20), some (some 43), none, none]), .inl (6, [some (some 44)]), .inr (0, 1848), .inl (10, [some (some 46), none, none, none, none, none, none, none]), .inl (6, [some (some 47)]), .inr (0, 900), .inl (8, [some (some 45), some (some 49)]), .inl (7, [none, none, none, none, none, none, none, some (some 50), some (some 52), some (some 54), some (some 56), some (some 58), some (some 60), some (some 62), some (some 64), some (some 66)]), .inl (6, [some (some 51)]), .inr (0, 6), .inl (6, [some (some 53)]), .inr (0, 8), .inl (6, [some (some 55)]), .inr (0, 8), .inl (6, [some (some 57)]), .inr (0, 6), .inl (6, [some (some 59)]), .inr (0, 40), .inl (6, [some (some 61)]), .inr (0, 40), .inl (6, [some (some 63)]), .inr (0, 40), .inl (6, [some (some 65)]), .inr (0, 40), .inl (6, [some (some 67)]), .inr (0, 40), .inl (9, [some (some 45), none, none, none, none]), .inl (5, [some (some 1), some (some 20), some (some 70), none]), .inl (6, [some (some 71)]), .inr (0, 150)]
def zb_X7_init_1 (s : ga_M) : ga_M := (ga_z (ga_z (ga_z (ga_z (ga_z (ga_z (ga_z (ga_z (ga_z (ga_z (ga_z (ga_z (ga_z (ga_z (ga_z (ga_z (ga_z (ga_z s 2) 3) 4) 5) 6) 7) 8) 9) 10) 11) 12) 13) 14) 15) 16) 17) 18) 19)
theorem zx_X7_init_1 : ∃ f, f = zb_X7_init_1 := ⟨_, rfl⟩
def zk_X7_init_1 : ga_M → ga_M := Classical.choose zx_X7_init_1
theorem ze_X7_init_1 : zk_X7_init_1 = zb_X7_init_1 := Classical.choose_spec zx_X7_init_1
def zb_X3_init_20 (s : ga_M) : ga_M := (ga_z (ga_z (ga_z (ga_z (ga_z (ga_z (ga_z (ga_z (ga_z (ga_z s 21) 22) 23) 24) 25) 26) 27) 28) 29) 30)
theorem zx_X3_init_20 : ∃ f, f = zb_X3_init_20 := ⟨_, rfl⟩
def zk_X3_init_20 : ga_M → ga_M := Classical.choose zx_X3_init_20
theorem ze_X3_init_20 : zk_X3_init_20 = zb_X3_init_20 := Classical.choose_spec zx_X3_init_20
def zb_X4_init_31 (s : ga_M) : ga_M := s
theorem zx_X4_init_31 : ∃ f, f = zb_X4_init_31 := ⟨_, rfl⟩
def zk_X4_init_31 : ga_M → ga_M := Classical.choose zx_X4_init_31
theorem ze_X4_init_31 : zk_X4_init_31 = zb_X4_init_31 := Classical.choose_spec zx_X4_init_31
def zb_X0_init_32 (s : ga_M) : ga_M := (ga_z (ga_z (ga_z (ga_z (ga_z (ga_z (ga_z (ga_z s 33) 34) 35) 36) 37) 38) 39) 40)
theorem zx_X0_init_32 : ∃ f, f = zb_X0_init_32 := ⟨_, rfl⟩
def zk_X0_init_32 : ga_M → ga_M := Classical.choose zx_X0_init_32
theorem ze_X0_init_32 : zk_X0_init_32 = zb_X0_init_32 := Classical.choose_spec zx_X0_init_32
def zb_X2_init_41 (s : ga_M) : ga_M := s
theorem zx_X2_init_41 : ∃ f, f = zb_X2_init_41 := ⟨_, rfl⟩
def zk_X2_init_41 : ga_M → ga_M := Classical.choose zx_X2_init_41
theorem ze_X2_init_41 : zk_X2_init_41 = zb_X2_init_41 := Classical.choose_spec zx_X2_init_41
def zb_X1_init_42 (s : ga_M) : ga_M := (ga_z (ga_z s 43) 44)
theorem zx_X1_init_42 : ∃ f, f = zb_X1_init_42 := ⟨_, rfl⟩
def zk_X1_init_42 : ga_M → ga_M := Classical.choose zx_X1_init_42
theorem ze_X1_init_42 : zk_X1_init_42 = zb_X1_init_42 := Classical.choose_spec zx_X1_init_42
def zb_X10_init_45 (s : ga_M) : ga_M := (ga_up (ga_z (ga_z s 46) 47) 45 7 (-1))
theorem zx_X10_init_45 : ∃ f, f = zb_X10_init_45 := ⟨_, rfl⟩
def zk_X10_init_45 : ga_M → ga_M := Classical.choose zx_X10_init_45
theorem ze_X10_init_45 : zk_X10_init_45 = zb_X10_init_45 := Classical.choose_spec zx_X10_init_45
def zb_X7_init_49 (s : ga_M) : ga_M := (ga_z (ga_z (ga_z (ga_z (ga_z (ga_z (ga_z (ga_z (ga_z (ga_z (ga_z (ga_z (ga_z (ga_z (ga_z (ga_z (ga_z (ga_z s 50) 51) 52) 53) 54) 55) 56) 57) 58) 59) 60) 61) 62) 63) 64) 65) 66) 67)
theorem zx_X7_init_49 : ∃ f, f = zb_X7_init_49 := ⟨_, rfl⟩
def zk_X7_init_49 : ga_M → ga_M := Classical.choose zx_X7_init_49
theorem ze_X7_init_49 : zk_X7_init_49 = zb_X7_init_49 := Classical.choose_spec zx_X7_init_49
def zb_X8_init_48 (s : ga_M) : ga_M := (zk_X7_init_49 (ga_z s 49))
theorem zx_X8_init_48 : ∃ f, f = zb_X8_init_48 := ⟨_, rfl⟩
def zk_X8_init_48 : ga_M → ga_M := Classical.choose zx_X8_init_48
theorem ze_X8_init_48 : zk_X8_init_48 = zb_X8_init_48 := Classical.choose_spec zx_X8_init_48
def zb_X9_init_68 (s : ga_M) : ga_M := s
theorem zx_X9_init_68 : ∃ f, f = zb_X9_init_68 := ⟨_, rfl⟩
def zk_X9_init_68 : ga_M → ga_M := Classical.choose zx_X9_init_68
theorem ze_X9_init_68 : zk_X9_init_68 = zb_X9_init_68 := Classical.choose_spec zx_X9_init_68
def zb_X5_init_69 (s : ga_M) : ga_M := (ga_z (ga_z s 70) 71)
theorem zx_X5_init_69 : ∃ f, f = zb_X5_init_69 := ⟨_, rfl⟩
def zk_X5_init_69 : ga_M → ga_M := Classical.choose zx_X5_init_69
theorem ze_X5_init_69 : zk_X5_init_69 = zb_X5_init_69 := Classical.choose_spec zx_X5_init_69
def zb_X11_init_0 (s : ga_M) : Option (ga_S × ga_M) :=
  (f_X3_begin (zk_X3_init_20 (ga_z (v_X7_becomeSample (zk_X7_init_1 (ga_z s 1))) 20))).bind fun s1 =>
  some (gkB_X11_init_0, (zk_X5_init_69 (ga_z (zk_X9_init_68 (ga_z (zk_X8_init_48 (ga_z (zk_X10_init_45 (ga_z (zk_X1_init_42 (ga_z (zk_X2_init_41 (ga_z (zk_X0_init_32 (ga_z (zk_X4_init_31 (ga_z s1 31)) 32)) 41)) 42)) 45)) 48)) 68)) 69)))
theorem zx_X11_init_0 : ∃ f, f = zb_X11_init_0 := ⟨_, rfl⟩
def zk_X11_init_0 : ga_M → Option (ga_S × ga_M) := Classical.choose zx_X11_init_0
theorem ze_X11_init_0 : zk_X11_init_0 = zb_X11_init_0 := Classical.choose_spec zx_X11_init_0
theorem gv_x5 : ∃ n : Nat, n = 5 := ⟨_, rfl⟩
def gv_f5 : Nat := Classical.choose gv_x5
theorem gv_f5_eq : gv_f5 = 5 := Classical.choose_spec gv_x5
theorem gv_x8 : ∃ n : Nat, n = 8 := ⟨_, rfl⟩
def gv_f8 : Nat := Classical.choose gv_x8
theorem gv_f8_eq : gv_f8 = 8 := Classical.choose_spec gv_x8
theorem gv_x15 : ∃ n : Nat, n = 15 := ⟨_, rfl⟩
def gv_f15 : Nat := Classical.choose gv_x15
theorem gv_f15_eq : gv_f15 = 15 := Classical.choose_spec gv_x15
theorem gv_x21 : ∃ n : Nat, n = 21 := ⟨_, rfl⟩
def gv_f21 : Nat := Classical.choose gv_x21
theorem gv_f21_eq : gv_f21 = 21 := Classical.choose_spec gv_x21
def gw_cell (xs : Nat → Int32) (LN : Nat) (i : Int32) (s : ga_M) : Option Int32 :=
  if Int32.ofNat LN ≤ i then some 0
  else if i < 0 ∨ LN ≤ i.toNatClampNeg then none
  else some (xs i.toNatClampNeg)
def f_L_type_i (c : Nat) (go : Int32 → ga_M → Option ga_M) : Nat → Int32 → Int32 → ga_M → Option ga_M
  | 0, _, _, _ => none
  | n + 1, l2, l4, s =>
    if 20 ≤ l4 then
      (f_X11_appendText (s c 0) (s c 1) (s c 2) (s c 3) (s c 4) s).bind fun q1 =>
      Sum.elim (fun (x3 : Int32) =>
        let v4 : Int32 := l2 + 20
        go v4 q1.2
      ) (fun e2 =>
        none
      ) q1.1
    else
    if (4 : Int32) = 0 then
      none
    else
    if (4 : Int32) = 0 then
      none
    else
    if (l4 / 4) < 0 ∨ 5 ≤ (l4 / 4).toNatClampNeg then
      none
    else
      (ga_sl 1024 s).bind fun x5 =>
      if x5 ≤ (l2 + l4) then
        if (l4 / 4) < 0 ∨ 5 ≤ (l4 / 4).toNatClampNeg then
          none
        else
          let s6 : ga_M := ga_up s c (l4 / 4).toNatClampNeg (((s c (l4 / 4).toNatClampNeg) <<< (8 &&& 31)) ||| 0)
          let v7 : Int32 := l4 + 1
          f_L_type_i c go n l2 v7 s6
      else
        (ga_sc 1024 (l2 + l4) s).bind fun x8 =>
        if (l4 / 4) < 0 ∨ 5 ≤ (l4 / 4).toNatClampNeg then
          none
        else
          let s9 : ga_M := ga_up s c (l4 / 4).toNatClampNeg (((s c (l4 / 4).toNatClampNeg) <<< (8 &&& 31)) ||| x8)
          let v10 : Int32 := l4 + 1
          f_L_type_i c go n l2 v10 s9
def f_L_type_o : List Nat → Int32 → ga_M → Option ga_M
  | [], l2, s =>
    (ga_sl 1024 s).bind fun x1 =>
    if x1 ≤ l2 then
      (ga_sl 1024 s).bind fun x1 =>
      (f_X11_truncateText x1 s).bind fun q2 =>
      Sum.elim (fun (x4 : Int32) =>
        some q2.2
      ) (fun e3 =>
        none
      ) q2.1
    else none
  | c :: cs, l2, s =>
    (ga_sl 1024 s).bind fun x1 =>
    if x1 ≤ l2 then none
    else f_L_type_i c (fun l2 s => f_L_type_o cs l2 s) gv_f21 l2 0 (ga_z s c)
def fb_L_type (s : ga_M) : Option ga_M :=
  f_L_type_o [72, 73, 74, 75, 76, 77, 78, 79, 80, 81, 82, 83] 0 s
theorem fx_L_type : ∃ f, f = fb_L_type := ⟨_, rfl⟩
def f_L_type : ga_M → Option ga_M := Classical.choose fx_L_type
theorem fe_L_type : f_L_type = fb_L_type := Classical.choose_spec fx_L_type
def f_L_holds_h334  : Nat → Int32 → Int32 → Int32 → Int32 → Int32 → Int32 → Int32 → ga_M → Option (Int32 × ga_M)
  | 0, _, _, _, _, _, _, _, _ => none
  | n + 1, l1, l2, l3, l4, l5, l6, l7, s =>
    if 4 ≤ l7 then
      (f_X11_count 7 s).bind fun x201 =>
      Sum.elim (fun (x203 : Int32) =>
        if x203 = l4 then
          (f_X11_count 8 s).bind fun x204 =>
          Sum.elim (fun (x206 : Int32) =>
            if x206 = l5 then
              (f_X11_count 9 s).bind fun x207 =>
              Sum.elim (fun (x209 : Int32) =>
                if x209 = l6 then
                  if ((l1 + l5) + l4) = 7 then
                    if l2 = l5 then
                      if l3 = (l1 - 7) then
                        (f_X11_taughtShare s).bind fun x210 =>
                        if FP.ddiv (FP.i2d l1) (FP.i2d 7) &&& 0x7fffffffffffffff ≤ 0x7ff0000000000000 then
                          if (Op.cmpValue (FP.dcmp x210 (FP.ddiv (FP.i2d l1) (FP.i2d 7))) .l) = 0 then
                            (f_X11_spread s).bind fun x211 =>
                            if x211 < 0 then
                              some (0, s)
                            else
                              some (1, s)
                          else
                            some (0, s)
                        else
                          none
                      else
                        some (0, s)
                    else
                      some (0, s)
                  else
                    some (0, s)
                else
                  some (0, s)
              ) (fun e208 =>
                none
              ) x207
            else
              some (0, s)
          ) (fun e205 =>
            none
          ) x204
        else
          some (0, s)
      ) (fun e202 =>
        none
      ) x201
    else
      (f_X11_teacher l7 3 s).bind fun x212 =>
      Sum.elim (fun (x214 : Int32) =>
        let v215 : Int32 := (l1 + x214)
        (f_X11_teacher l7 5 s).bind fun x216 =>
        Sum.elim (fun (x218 : Int32) =>
          let v219 : Int32 := (l2 + x218)
          (f_X11_teacher l7 4 s).bind fun x220 =>
          Sum.elim (fun (x222 : Int32) =>
            let v223 : Int32 := (l3 + x222)
            (f_X11_teacher l7 4 s).bind fun x224 =>
            Sum.elim (fun (x226 : Int32) =>
              (f_X11_teacher l7 3 s).bind fun x227 =>
              Sum.elim (fun (x229 : Int32) =>
                (f_X11_teacher l7 6 s).bind fun x230 =>
                Sum.elim (fun (x232 : Int32) =>
                  if x226 = (x229 - x232) then
                    let v233 : Int32 := l7 + 1
                    f_L_holds_h334 n v215 v219 v223 l4 l5 l6 v233 s
                  else
                    some (0, s)
                ) (fun e231 =>
                  none
                ) x230
              ) (fun e228 =>
                none
              ) x227
            ) (fun e225 =>
              none
            ) x224
          ) (fun e221 =>
            none
          ) x220
        ) (fun e217 =>
          none
        ) x216
      ) (fun e213 =>
        none
      ) x212
def fb_L_holds_j325  (go18 : Int32 → Int32 → Int32 → Int32 → Int32 → Int32 → Int32 → ga_M → Option (Int32 × ga_M)) (l1 : Int32) (l2 : Int32) (l3 : Int32) (l4 : Int32) (l5 : Int32) (l6 : Int32) (l7 : Int32) (s : ga_M) : Option (Int32 × ga_M) :=
  let v1001 : Int32 := l7 + 1
  go18 l1 l2 l3 l4 l5 l6 v1001 s
theorem fx_L_holds_j325 : ∃ f, f = fb_L_holds_j325 := ⟨_, rfl⟩
def f_L_holds_j325 : (Int32 → Int32 → Int32 → Int32 → Int32 → Int32 → Int32 → ga_M → Option (Int32 × ga_M)) → Int32 → Int32 → Int32 → Int32 → Int32 → Int32 → Int32 → ga_M → Option (Int32 × ga_M) := Classical.choose fx_L_holds_j325
theorem fe_L_holds_j325 : f_L_holds_j325 = fb_L_holds_j325 := Classical.choose_spec fx_L_holds_j325
def fb_L_holds_j303  (go18 : Int32 → Int32 → Int32 → Int32 → Int32 → Int32 → Int32 → ga_M → Option (Int32 × ga_M)) (l1 : Int32) (l2 : Int32) (l3 : Int32) (l4 : Int32) (l5 : Int32) (l6 : Int32) (l7 : Int32) (l9 : Int32) (l11 : Int32) (s : ga_M) : Option (Int32 × ga_M) :=
  if 0 ≤ l9 then
    f_L_holds_j325 go18 l1 l2 l3 l4 l5 l6 l7 s
  else
  if l11 = 1 then
    f_L_holds_j325 go18 l1 l2 l3 l4 l5 l6 l7 s
  else
    (f_X11_candidates l7 s).bind fun x901 =>
    Sum.elim (fun (x903 : Int32) =>
      if x903 = 0 then
        f_L_holds_j325 go18 l1 l2 l3 l4 l5 l6 l7 s
      else
        some (0, s)
    ) (fun e902 =>
      none
    ) x901
theorem fx_L_holds_j303 : ∃ f, f = fb_L_holds_j303 := ⟨_, rfl⟩
def f_L_holds_j303 : (Int32 → Int32 → Int32 → Int32 → Int32 → Int32 → Int32 → ga_M → Option (Int32 × ga_M)) → Int32 → Int32 → Int32 → Int32 → Int32 → Int32 → Int32 → Int32 → Int32 → ga_M → Option (Int32 × ga_M) := Classical.choose fx_L_holds_j303
theorem fe_L_holds_j303 : f_L_holds_j303 = fb_L_holds_j303 := Classical.choose_spec fx_L_holds_j303
def fb_L_holds_j278  (go18 : Int32 → Int32 → Int32 → Int32 → Int32 → Int32 → Int32 → ga_M → Option (Int32 × ga_M)) (l1 : Int32) (l2 : Int32) (l3 : Int32) (l4 : Int32) (l5 : Int32) (l6 : Int32) (l7 : Int32) (l9 : Int32) (l11 : Int32) (s : ga_M) : Option (Int32 × ga_M) :=
  if l11 = 1 then
    (f_X11_candidates l7 s).bind fun x801 =>
    Sum.elim (fun (x803 : Int32) =>
      (f_X11_chainTeacher l7 0 s).bind fun q804 =>
      Sum.elim (fun (x806 : Int32) =>
        if ((x803 >>> (x806 &&& 31)) &&& 1) = 0 then
          some (0, q804.2)
        else
          f_L_holds_j303 go18 l1 l2 l3 l4 l5 l6 l7 l9 l11 q804.2
      ) (fun e805 =>
        none
      ) q804.1
    ) (fun e802 =>
      none
    ) x801
  else
    f_L_holds_j303 go18 l1 l2 l3 l4 l5 l6 l7 l9 l11 s
theorem fx_L_holds_j278 : ∃ f, f = fb_L_holds_j278 := ⟨_, rfl⟩
def f_L_holds_j278 : (Int32 → Int32 → Int32 → Int32 → Int32 → Int32 → Int32 → ga_M → Option (Int32 × ga_M)) → Int32 → Int32 → Int32 → Int32 → Int32 → Int32 → Int32 → Int32 → Int32 → ga_M → Option (Int32 × ga_M) := Classical.choose fx_L_holds_j278
theorem fe_L_holds_j278 : f_L_holds_j278 = fb_L_holds_j278 := Classical.choose_spec fx_L_holds_j278
def fb_L_holds_j216  (go18 : Int32 → Int32 → Int32 → Int32 → Int32 → Int32 → Int32 → ga_M → Option (Int32 × ga_M)) (l1 : Int32) (l2 : Int32) (l3 : Int32) (l4 : Int32) (l5 : Int32) (l6 : Int32) (l7 : Int32) (l9 : Int32) (s : ga_M) : Option (Int32 × ga_M) :=
  (f_X11_lesson l7 5 s).bind fun x701 =>
  Sum.elim (fun (x703 : Int32) =>
    let v704 : Int32 := (l5 + x703)
    (f_X11_lesson l7 9 s).bind fun x705 =>
    Sum.elim (fun (x707 : Int32) =>
      let v708 : Int32 := (l6 + x707)
      (f_X11_chain l7 s).bind fun q709 =>
      Sum.elim (fun (x711 : Int32) =>
        if l9 < 0 then
          f_L_holds_j278 go18 l1 l2 l3 l4 v704 v708 l7 l9 x711 q709.2
        else
        if x711 = 0 then
          (f_X11_candidates l7 q709.2).bind fun x712 =>
          Sum.elim (fun (x714 : Int32) =>
            if x714 = 0 then
              f_L_holds_j278 go18 l1 l2 l3 l4 v704 v708 l7 l9 x711 q709.2
            else
              (f_X11_lesson l7 5 q709.2).bind fun x715 =>
              Sum.elim (fun (x717 : Int32) =>
                if x717 = 0 then
                  some (0, q709.2)
                else
                  f_L_holds_j278 go18 l1 l2 l3 l4 v704 v708 l7 l9 x711 q709.2
              ) (fun e716 =>
                none
              ) x715
          ) (fun e713 =>
            none
          ) x712
        else
          some (0, q709.2)
      ) (fun e710 =>
        none
      ) q709.1
    ) (fun e706 =>
      none
    ) x705
  ) (fun e702 =>
    none
  ) x701
theorem fx_L_holds_j216 : ∃ f, f = fb_L_holds_j216 := ⟨_, rfl⟩
def f_L_holds_j216 : (Int32 → Int32 → Int32 → Int32 → Int32 → Int32 → Int32 → ga_M → Option (Int32 × ga_M)) → Int32 → Int32 → Int32 → Int32 → Int32 → Int32 → Int32 → Int32 → ga_M → Option (Int32 × ga_M) := Classical.choose fx_L_holds_j216
theorem fe_L_holds_j216 : f_L_holds_j216 = fb_L_holds_j216 := Classical.choose_spec fx_L_holds_j216
def fb_L_holds_j208  (go18 : Int32 → Int32 → Int32 → Int32 → Int32 → Int32 → Int32 → ga_M → Option (Int32 × ga_M)) (l1 : Int32) (l2 : Int32) (l3 : Int32) (l4 : Int32) (l5 : Int32) (l6 : Int32) (l7 : Int32) (l9 : Int32) (s : ga_M) : Option (Int32 × ga_M) :=
  if 0 ≤ l9 then
    f_L_holds_j216 go18 l1 l2 l3 l4 l5 l6 l7 l9 s
  else
    let v601 : Int32 := l4 + 1
    f_L_holds_j216 go18 l1 l2 l3 v601 l5 l6 l7 l9 s
theorem fx_L_holds_j208 : ∃ f, f = fb_L_holds_j208 := ⟨_, rfl⟩
def f_L_holds_j208 : (Int32 → Int32 → Int32 → Int32 → Int32 → Int32 → Int32 → ga_M → Option (Int32 × ga_M)) → Int32 → Int32 → Int32 → Int32 → Int32 → Int32 → Int32 → Int32 → ga_M → Option (Int32 × ga_M) := Classical.choose fx_L_holds_j208
theorem fe_L_holds_j208 : f_L_holds_j208 = fb_L_holds_j208 := Classical.choose_spec fx_L_holds_j208
def fb_L_holds_j190  (go18 : Int32 → Int32 → Int32 → Int32 → Int32 → Int32 → Int32 → ga_M → Option (Int32 × ga_M)) (l1 : Int32) (l2 : Int32) (l3 : Int32) (l4 : Int32) (l5 : Int32) (l6 : Int32) (l7 : Int32) (l9 : Int32) (s : ga_M) : Option (Int32 × ga_M) :=
  if 0 ≤ l9 then
    f_L_holds_j208 go18 l1 l2 l3 l4 l5 l6 l7 l9 s
  else
    (f_X11_lesson l7 5 s).bind fun x501 =>
    Sum.elim (fun (x503 : Int32) =>
      if x503 = 1 then
        some (0, s)
      else
        f_L_holds_j208 go18 l1 l2 l3 l4 l5 l6 l7 l9 s
    ) (fun e502 =>
      none
    ) x501
theorem fx_L_holds_j190 : ∃ f, f = fb_L_holds_j190 := ⟨_, rfl⟩
def f_L_holds_j190 : (Int32 → Int32 → Int32 → Int32 → Int32 → Int32 → Int32 → ga_M → Option (Int32 × ga_M)) → Int32 → Int32 → Int32 → Int32 → Int32 → Int32 → Int32 → Int32 → ga_M → Option (Int32 × ga_M) := Classical.choose fx_L_holds_j190
theorem fe_L_holds_j190 : f_L_holds_j190 = fb_L_holds_j190 := Classical.choose_spec fx_L_holds_j190
def fb_L_holds_j155  (go18 : Int32 → Int32 → Int32 → Int32 → Int32 → Int32 → Int32 → ga_M → Option (Int32 × ga_M)) (l1 : Int32) (l2 : Int32) (l3 : Int32) (l4 : Int32) (l5 : Int32) (l6 : Int32) (l7 : Int32) (l9 : Int32) (s : ga_M) : Option (Int32 × ga_M) :=
  if l9 < 0 then
    f_L_holds_j190 go18 l1 l2 l3 l4 l5 l6 l7 l9 s
  else
    (f_X11_lesson l7 5 s).bind fun x401 =>
    Sum.elim (fun (x403 : Int32) =>
      if x403 = 0 then
        (f_X11_teacher l9 1 s).bind fun x404 =>
        Sum.elim (fun (x406 : Int32) =>
          (f_X11_lesson l7 2 s).bind fun x407 =>
          Sum.elim (fun (x409 : Int32) =>
            if ((x406 >>> (x409 &&& 31)) &&& 1) = 0 then
              some (0, s)
            else
              f_L_holds_j190 go18 l1 l2 l3 l4 l5 l6 l7 l9 s
          ) (fun e408 =>
            none
          ) x407
        ) (fun e405 =>
          none
        ) x404
      else
        f_L_holds_j190 go18 l1 l2 l3 l4 l5 l6 l7 l9 s
    ) (fun e402 =>
      none
    ) x401
theorem fx_L_holds_j155 : ∃ f, f = fb_L_holds_j155 := ⟨_, rfl⟩
def f_L_holds_j155 : (Int32 → Int32 → Int32 → Int32 → Int32 → Int32 → Int32 → ga_M → Option (Int32 × ga_M)) → Int32 → Int32 → Int32 → Int32 → Int32 → Int32 → Int32 → Int32 → ga_M → Option (Int32 × ga_M) := Classical.choose fx_L_holds_j155
theorem fe_L_holds_j155 : f_L_holds_j155 = fb_L_holds_j155 := Classical.choose_spec fx_L_holds_j155
def fb_L_holds_j105  (go18 : Int32 → Int32 → Int32 → Int32 → Int32 → Int32 → Int32 → ga_M → Option (Int32 × ga_M)) (l1 : Int32) (l2 : Int32) (l3 : Int32) (l4 : Int32) (l5 : Int32) (l6 : Int32) (l7 : Int32) (l9 : Int32) (l10 : Int32) (s : ga_M) : Option (Int32 × ga_M) :=
  (f_X11_lesson l7 4 s).bind fun x301 =>
  Sum.elim (fun (x303 : Int32) =>
    (f_X11_room x303 0 s).bind fun x304 =>
    Sum.elim (fun (x306 : Int32) =>
      (f_X11_lesson l7 2 s).bind fun x307 =>
      Sum.elim (fun (x309 : Int32) =>
        (f_X11_subject x309 0 s).bind fun x310 =>
        Sum.elim (fun (x312 : Int32) =>
          if x306 = x312 then
            if l9 < 0 then
              f_L_holds_j155 go18 l1 l2 l3 l4 l5 l6 l7 l9 s
            else
              (f_X11_teacher l9 2 s).bind fun x313 =>
              Sum.elim (fun (x315 : Int32) =>
                if ((x315 >>> (l10 &&& 31)) &&& 1) = 1 then
                  some (0, s)
                else
                  f_L_holds_j155 go18 l1 l2 l3 l4 l5 l6 l7 l9 s
              ) (fun e314 =>
                none
              ) x313
          else
            some (0, s)
        ) (fun e311 =>
          none
        ) x310
      ) (fun e308 =>
        none
      ) x307
    ) (fun e305 =>
      none
    ) x304
  ) (fun e302 =>
    none
  ) x301
theorem fx_L_holds_j105 : ∃ f, f = fb_L_holds_j105 := ⟨_, rfl⟩
def f_L_holds_j105 : (Int32 → Int32 → Int32 → Int32 → Int32 → Int32 → Int32 → ga_M → Option (Int32 × ga_M)) → Int32 → Int32 → Int32 → Int32 → Int32 → Int32 → Int32 → Int32 → Int32 → ga_M → Option (Int32 × ga_M) := Classical.choose fx_L_holds_j105
theorem fe_L_holds_j105 : f_L_holds_j105 = fb_L_holds_j105 := Classical.choose_spec fx_L_holds_j105
def f_L_holds_h18  : Nat → Int32 → Int32 → Int32 → Int32 → Int32 → Int32 → Int32 → ga_M → Option (Int32 × ga_M)
  | 0, _, _, _, _, _, _, _, _ => none
  | n + 1, l1, l2, l3, l4, l5, l6, l7, s =>
    if 7 ≤ l7 then
      f_L_holds_h334 gv_f5 l1 l2 l3 l4 l5 l6 0 s
    else
      (f_X11_lesson l7 0 s).bind fun x101 =>
      Sum.elim (fun (x103 : Int32) =>
        (f_X11_lesson l7 3 s).bind fun x104 =>
        Sum.elim (fun (x106 : Int32) =>
          if (3 : Int32) = 0 then
            none
          else
            let v107 : Int32 := (x103 / 3)
            (f_X11_lesson l7 1 s).bind fun x108 =>
            Sum.elim (fun (x110 : Int32) =>
              (f_X11_lessonOfClass x103 x110 s).bind fun x111 =>
              Sum.elim (fun (x113 : Int32) =>
                if x113 = l7 then
                  (f_X11_lesson l7 4 s).bind fun x114 =>
                  Sum.elim (fun (x116 : Int32) =>
                    (f_X11_lessonInRoom x103 x116 s).bind fun x117 =>
                    Sum.elim (fun (x119 : Int32) =>
                      if x119 = l7 then
                        if x106 < 0 then
                          f_L_holds_j105 (f_L_holds_h18 n) l1 l2 l3 l4 l5 l6 l7 x106 v107 s
                        else
                          (f_X11_lessonOfTeacher x103 x106 s).bind fun x120 =>
                          Sum.elim (fun (x122 : Int32) =>
                            if x122 = l7 then
                              f_L_holds_j105 (f_L_holds_h18 n) l1 l2 l3 l4 l5 l6 l7 x106 v107 s
                            else
                              some (0, s)
                          ) (fun e121 =>
                            none
                          ) x120
                      else
                        some (0, s)
                    ) (fun e118 =>
                      none
                    ) x117
                  ) (fun e115 =>
                    none
                  ) x114
                else
                  some (0, s)
              ) (fun e112 =>
                none
              ) x111
            ) (fun e109 =>
              none
            ) x108
        ) (fun e105 =>
          none
        ) x104
      ) (fun e102 =>
        none
      ) x101
def fb_L_holds  (s : ga_M) : Option (Int32 × ga_M) :=
  f_L_holds_h18 gv_f8 0 0 0 0 0 0 0 s
theorem fx_L_holds : ∃ f, f = fb_L_holds := ⟨_, rfl⟩
def f_L_holds : ga_M → Option (Int32 × ga_M) := Classical.choose fx_L_holds
theorem fe_L_holds : f_L_holds = fb_L_holds := Classical.choose_spec fx_L_holds
def fb_L_law2_j1179 (xs : Nat → Int32) (LN : Nat)  (go106 : Int32 → Int32 → ga_M → Option (Int32 × ga_M)) (l2 : Int32) (l3 : Int32) (l4 : Int32) (l5 : Int32) (l10 : Int32) (l11 : Int32) (l12 : Int32) (l13 : Int32) (l14 : Int32) (l15 : Int32) (l18 : Int32) (s : ga_M) : Option (Int32 × ga_M) :=
  if (v_X11_undoDepth s) = l2 then
    (f_L_holds s).bind fun q1401 =>
    if q1401.1 = 0 then
      some (0, q1401.2)
    else
    if l18 = 0 then
      let v1402 : Int32 := l3 + 1
      go106 l2 v1402 q1401.2
    else
    if (((l4).toUInt32 >>> ((29 : Int32).toUInt32 &&& Int32.toUInt32 31)).toInt32 &&& 3) = 1 then
      let v1404 : Int32 := l2 + (-1)
      (f_X11_undo q1401.2).bind fun q1405 =>
      Sum.elim (fun (x1407 : Int32) =>
        if x1407 = v1404 then
          (f_X11_count 7 q1405.2).bind fun x1408 =>
          Sum.elim (fun (x1410 : Int32) =>
            if x1410 = l12 then
              (f_X11_count 8 q1405.2).bind fun x1411 =>
              Sum.elim (fun (x1413 : Int32) =>
                if x1413 = l13 then
                  (f_X11_count 9 q1405.2).bind fun x1414 =>
                  Sum.elim (fun (x1416 : Int32) =>
                    if x1416 = l14 then
                      (f_X11_lesson l5 0 q1405.2).bind fun x1417 =>
                      Sum.elim (fun (x1419 : Int32) =>
                        if x1419 = l10 then
                          (f_X11_lesson l5 3 q1405.2).bind fun x1420 =>
                          Sum.elim (fun (x1422 : Int32) =>
                            if x1422 = l11 then
                              (f_X11_writeReport 0 q1405.2).bind fun q1423 =>
                              Sum.elim (fun (x1425 : Int32) =>
                                if x1425 = l15 then
                                  let v1426 : Int32 := l3 + 1
                                  go106 v1404 v1426 q1423.2
                                else
                                  some (0, q1423.2)
                              ) (fun e1424 =>
                                none
                              ) q1423.1
                            else
                              some (0, q1405.2)
                          ) (fun e1421 =>
                            none
                          ) x1420
                        else
                          some (0, q1405.2)
                      ) (fun e1418 =>
                        none
                      ) x1417
                    else
                      some (0, q1405.2)
                  ) (fun e1415 =>
                    none
                  ) x1414
                else
                  some (0, q1405.2)
              ) (fun e1412 =>
                none
              ) x1411
            else
              some (0, q1405.2)
          ) (fun e1409 =>
            none
          ) x1408
        else
          some (0, q1405.2)
      ) (fun e1406 =>
        none
      ) q1405.1
    else
      let v1403 : Int32 := l3 + 1
      go106 l2 v1403 q1401.2
  else
    some (0, s)
theorem fx_L_law2_j1179 : ∃ f, f = fb_L_law2_j1179 := ⟨_, rfl⟩
def f_L_law2_j1179 : (Nat → Int32) → Nat → (Int32 → Int32 → ga_M → Option (Int32 × ga_M)) → Int32 → Int32 → Int32 → Int32 → Int32 → Int32 → Int32 → Int32 → Int32 → Int32 → Int32 → ga_M → Option (Int32 × ga_M) := Classical.choose fx_L_law2_j1179
theorem fe_L_law2_j1179 : f_L_law2_j1179 = fb_L_law2_j1179 := Classical.choose_spec fx_L_law2_j1179
def fb_L_law2_j1165 (xs : Nat → Int32) (LN : Nat)  (go106 : Int32 → Int32 → ga_M → Option (Int32 × ga_M)) (l2 : Int32) (l3 : Int32) (l4 : Int32) (l5 : Int32) (l10 : Int32) (l11 : Int32) (l12 : Int32) (l13 : Int32) (l14 : Int32) (l15 : Int32) (l18 : Int32) (s : ga_M) : Option (Int32 × ga_M) :=
  if l18 = 0 then
    f_L_law2_j1179 xs LN go106 l2 l3 l4 l5 l10 l11 l12 l13 l14 l15 l18 s
  else
    let v1301 : Int32 := (v_J9_min_7cf53 10 (l2 + 1) s)
    f_L_law2_j1179 xs LN go106 v1301 l3 l4 l5 l10 l11 l12 l13 l14 l15 l18 s
theorem fx_L_law2_j1165 : ∃ f, f = fb_L_law2_j1165 := ⟨_, rfl⟩
def f_L_law2_j1165 : (Nat → Int32) → Nat → (Int32 → Int32 → ga_M → Option (Int32 × ga_M)) → Int32 → Int32 → Int32 → Int32 → Int32 → Int32 → Int32 → Int32 → Int32 → Int32 → Int32 → ga_M → Option (Int32 × ga_M) := Classical.choose fx_L_law2_j1165
theorem fe_L_law2_j1165 : f_L_law2_j1165 = fb_L_law2_j1165 := Classical.choose_spec fx_L_law2_j1165
def fb_L_law2_j316 (xs : Nat → Int32) (LN : Nat)  (go106 : Int32 → Int32 → ga_M → Option (Int32 × ga_M)) (l2 : Int32) (l3 : Int32) (l4 : Int32) (l5 : Int32) (l7 : Int32) (l10 : Int32) (l11 : Int32) (l12 : Int32) (l13 : Int32) (l14 : Int32) (l15 : Int32) (l18 : Int32) (s : ga_M) : Option (Int32 × ga_M) :=
  let v301 : Int32 := (((l4).toUInt32 >>> ((17 : Int32).toUInt32 &&& Int32.toUInt32 31)).toInt32 &&& 1)
  (f_X11_teacher l7 2 s).bind fun x302 =>
  Sum.elim (fun (x304 : Int32) =>
    if (((l4).toUInt32 >>> ((18 : Int32).toUInt32 &&& Int32.toUInt32 31)).toInt32 &&& 3) ≤ 0 then
      (f_X11_setAbsent l7 v301 0 s).bind fun q305 =>
      Sum.elim (fun (x307 : Int32) =>
        (f_X11_count 7 q305.2).bind fun x308 =>
        Sum.elim (fun (x310 : Int32) =>
          if x310 = (l12 + x307) then
            (f_X11_teacher l7 2 q305.2).bind fun x311 =>
            Sum.elim (fun (x313 : Int32) =>
              if ((x313 >>> (v301 &&& 31)) &&& 1) = 0 then
                if x307 = 0 then
                  f_L_law2_j1165 xs LN go106 l2 l3 l4 l5 l10 l11 l12 l13 l14 l15 l18 q305.2
                else
                  some (0, q305.2)
              else
                some (0, q305.2)
            ) (fun e312 =>
              none
            ) x311
          else
            some (0, q305.2)
        ) (fun e309 =>
          none
        ) x308
      ) (fun e306 =>
        none
      ) q305.1
    else
      (f_X11_setAbsent l7 v301 1 s).bind fun q314 =>
      Sum.elim (fun (x316 : Int32) =>
        (f_X11_count 7 q314.2).bind fun x317 =>
        Sum.elim (fun (x319 : Int32) =>
          if x319 = (l12 + x316) then
            (f_X11_teacher l7 2 q314.2).bind fun x320 =>
            Sum.elim (fun (x322 : Int32) =>
              if ((x322 >>> (v301 &&& 31)) &&& 1) = 1 then
                f_L_law2_j1165 xs LN go106 l2 l3 l4 l5 l10 l11 l12 l13 l14 l15 l18 q314.2
              else
                some (0, q314.2)
            ) (fun e321 =>
              none
            ) x320
          else
            some (0, q314.2)
        ) (fun e318 =>
          none
        ) x317
      ) (fun e315 =>
        none
      ) q314.1
  ) (fun e303 =>
    none
  ) x302
theorem fx_L_law2_j316 : ∃ f, f = fb_L_law2_j316 := ⟨_, rfl⟩
def f_L_law2_j316 : (Nat → Int32) → Nat → (Int32 → Int32 → ga_M → Option (Int32 × ga_M)) → Int32 → Int32 → Int32 → Int32 → Int32 → Int32 → Int32 → Int32 → Int32 → Int32 → Int32 → Int32 → ga_M → Option (Int32 × ga_M) := Classical.choose fx_L_law2_j316
theorem fe_L_law2_j316 : f_L_law2_j316 = fb_L_law2_j316 := Classical.choose_spec fx_L_law2_j316
def fb_L_law2_j414 (xs : Nat → Int32) (LN : Nat)  (go106 : Int32 → Int32 → ga_M → Option (Int32 × ga_M)) (l2 : Int32) (l3 : Int32) (l4 : Int32) (l5 : Int32) (l7 : Int32) (l10 : Int32) (l11 : Int32) (l12 : Int32) (l13 : Int32) (l14 : Int32) (l15 : Int32) (l16 : Int32) (s : ga_M) : Option (Int32 × ga_M) :=
  (f_X11_whyNotCover l5 l7 s).bind fun x401 =>
  Sum.elim (fun (x403 : Int32) =>
    (f_L_cover_0 l5 l7 s).bind fun q404 =>
    Sum.elim (fun (x406 : Int32) =>
      if x406 ≤ (-1000) then
        if x403 = 0 then
          some (0, q404.2)
        else
          f_L_law2_j1165 xs LN go106 l2 l3 l4 l5 l10 l11 l12 l13 l14 l15 0 q404.2
      else
      if x403 = 0 then
        if x406 = (l16 + 1) then
          (f_X11_lesson l5 3 q404.2).bind fun x407 =>
          Sum.elim (fun (x409 : Int32) =>
            if x409 = l7 then
              (f_X11_lesson l5 5 q404.2).bind fun x410 =>
              Sum.elim (fun (x412 : Int32) =>
                if x412 = 0 then
                  f_L_law2_j1165 xs LN go106 l2 l3 l4 l5 l10 l11 l12 l13 l14 l15 1 q404.2
                else
                  some (0, q404.2)
              ) (fun e411 =>
                none
              ) x410
            else
              some (0, q404.2)
          ) (fun e408 =>
            none
          ) x407
        else
          some (0, q404.2)
      else
        some (0, q404.2)
    ) (fun e405 =>
      none
    ) q404.1
  ) (fun e402 =>
    none
  ) x401
theorem fx_L_law2_j414 : ∃ f, f = fb_L_law2_j414 := ⟨_, rfl⟩
def f_L_law2_j414 : (Nat → Int32) → Nat → (Int32 → Int32 → ga_M → Option (Int32 × ga_M)) → Int32 → Int32 → Int32 → Int32 → Int32 → Int32 → Int32 → Int32 → Int32 → Int32 → Int32 → Int32 → ga_M → Option (Int32 × ga_M) := Classical.choose fx_L_law2_j414
theorem fe_L_law2_j414 : f_L_law2_j414 = fb_L_law2_j414 := Classical.choose_spec fx_L_law2_j414
def fb_L_law2_j502 (xs : Nat → Int32) (LN : Nat)  (go106 : Int32 → Int32 → ga_M → Option (Int32 × ga_M)) (l2 : Int32) (l3 : Int32) (l4 : Int32) (l5 : Int32) (l7 : Int32) (l10 : Int32) (l11 : Int32) (l12 : Int32) (l13 : Int32) (l14 : Int32) (l15 : Int32) (s : ga_M) : Option (Int32 × ga_M) :=
  (f_X11_whyNotSupervise l5 l7 s).bind fun x501 =>
  Sum.elim (fun (x503 : Int32) =>
    (f_L_supervise_0 l5 l7 s).bind fun q504 =>
    Sum.elim (fun (x506 : Int32) =>
      if x506 ≤ (-1000) then
        if x503 = 0 then
          some (0, q504.2)
        else
          f_L_law2_j1165 xs LN go106 l2 l3 l4 l5 l10 l11 l12 l13 l14 l15 0 q504.2
      else
      if x503 = 0 then
        (f_X11_teacher l7 5 q504.2).bind fun x507 =>
        Sum.elim (fun (x509 : Int32) =>
          if x506 = x509 then
            (f_X11_lesson l5 3 q504.2).bind fun x510 =>
            Sum.elim (fun (x512 : Int32) =>
              if x512 = l7 then
                (f_X11_count 8 q504.2).bind fun x513 =>
                Sum.elim (fun (x515 : Int32) =>
                  if x515 = (l13 + 1) then
                    f_L_law2_j1165 xs LN go106 l2 l3 l4 l5 l10 l11 l12 l13 l14 l15 1 q504.2
                  else
                    some (0, q504.2)
                ) (fun e514 =>
                  none
                ) x513
              else
                some (0, q504.2)
            ) (fun e511 =>
              none
            ) x510
          else
            some (0, q504.2)
        ) (fun e508 =>
          none
        ) x507
      else
        some (0, q504.2)
    ) (fun e505 =>
      none
    ) q504.1
  ) (fun e502 =>
    none
  ) x501
theorem fx_L_law2_j502 : ∃ f, f = fb_L_law2_j502 := ⟨_, rfl⟩
def f_L_law2_j502 : (Nat → Int32) → Nat → (Int32 → Int32 → ga_M → Option (Int32 × ga_M)) → Int32 → Int32 → Int32 → Int32 → Int32 → Int32 → Int32 → Int32 → Int32 → Int32 → Int32 → ga_M → Option (Int32 × ga_M) := Classical.choose fx_L_law2_j502
theorem fe_L_law2_j502 : f_L_law2_j502 = fb_L_law2_j502 := Classical.choose_spec fx_L_law2_j502
def fb_L_law2_j661 (xs : Nat → Int32) (LN : Nat)  (go106 : Int32 → Int32 → ga_M → Option (Int32 × ga_M)) (l2 : Int32) (l3 : Int32) (l4 : Int32) (l5 : Int32) (l10 : Int32) (l11 : Int32) (l12 : Int32) (l13 : Int32) (l14 : Int32) (l15 : Int32) (l19 : Int32) (l20 : Int32) (l21 : Int32) (l22 : Int32) (s : ga_M) : Option (Int32 × ga_M) :=
  (f_L_repair_0 l5 s).bind fun q1701 =>
  Sum.elim (fun (x1703 : Int32) =>
    if x1703 ≤ (-1000) then
      if l19 ≤ 0 then
        f_L_law2_j1165 xs LN go106 l2 l3 l4 l5 l10 l11 l12 l13 l14 l15 0 q1701.2
      else
        some (0, q1701.2)
    else
    if l19 ≤ 0 then
      some (0, q1701.2)
    else
    if x1703 = l19 then
      (f_X11_lesson l5 3 q1701.2).bind fun x1704 =>
      Sum.elim (fun (x1706 : Int32) =>
        if x1706 = l20 then
          (f_X11_teacher l21 4 q1701.2).bind fun x1707 =>
          Sum.elim (fun (x1709 : Int32) =>
            if x1709 = (l22 + 1) then
              (f_X11_count 7 q1701.2).bind fun x1710 =>
              Sum.elim (fun (x1712 : Int32) =>
                if x1712 = (l12 - 1) then
                  f_L_law2_j1165 xs LN go106 l2 l3 l4 l5 l10 l11 l12 l13 l14 l15 1 q1701.2
                else
                  some (0, q1701.2)
              ) (fun e1711 =>
                none
              ) x1710
            else
              some (0, q1701.2)
          ) (fun e1708 =>
            none
          ) x1707
        else
          some (0, q1701.2)
      ) (fun e1705 =>
        none
      ) x1704
    else
      some (0, q1701.2)
  ) (fun e1702 =>
    none
  ) q1701.1
theorem fx_L_law2_j661 : ∃ f, f = fb_L_law2_j661 := ⟨_, rfl⟩
def f_L_law2_j661 : (Nat → Int32) → Nat → (Int32 → Int32 → ga_M → Option (Int32 × ga_M)) → Int32 → Int32 → Int32 → Int32 → Int32 → Int32 → Int32 → Int32 → Int32 → Int32 → Int32 → Int32 → Int32 → Int32 → ga_M → Option (Int32 × ga_M) := Classical.choose fx_L_law2_j661
theorem fe_L_law2_j661 : f_L_law2_j661 = fb_L_law2_j661 := Classical.choose_spec fx_L_law2_j661
def fb_L_law2_j643 (xs : Nat → Int32) (LN : Nat)  (go106 : Int32 → Int32 → ga_M → Option (Int32 × ga_M)) (l2 : Int32) (l3 : Int32) (l4 : Int32) (l5 : Int32) (l10 : Int32) (l11 : Int32) (l12 : Int32) (l13 : Int32) (l14 : Int32) (l15 : Int32) (l19 : Int32) (l20 : Int32) (l21 : Int32) (s : ga_M) : Option (Int32 × ga_M) :=
  if l21 < 0 then
    f_L_law2_j661 xs LN go106 l2 l3 l4 l5 l10 l11 l12 l13 l14 l15 l19 l20 l21 0 s
  else
    (f_X11_teacher l21 4 s).bind fun x1601 =>
    Sum.elim (fun (x1603 : Int32) =>
      f_L_law2_j661 xs LN go106 l2 l3 l4 l5 l10 l11 l12 l13 l14 l15 l19 l20 l21 x1603 s
    ) (fun e1602 =>
      none
    ) x1601
theorem fx_L_law2_j643 : ∃ f, f = fb_L_law2_j643 := ⟨_, rfl⟩
def f_L_law2_j643 : (Nat → Int32) → Nat → (Int32 → Int32 → ga_M → Option (Int32 × ga_M)) → Int32 → Int32 → Int32 → Int32 → Int32 → Int32 → Int32 → Int32 → Int32 → Int32 → Int32 → Int32 → Int32 → ga_M → Option (Int32 × ga_M) := Classical.choose fx_L_law2_j643
theorem fe_L_law2_j643 : f_L_law2_j643 = fb_L_law2_j643 := Classical.choose_spec fx_L_law2_j643
def fb_L_law2_j622 (xs : Nat → Int32) (LN : Nat)  (go106 : Int32 → Int32 → ga_M → Option (Int32 × ga_M)) (l2 : Int32) (l3 : Int32) (l4 : Int32) (l5 : Int32) (l10 : Int32) (l11 : Int32) (l12 : Int32) (l13 : Int32) (l14 : Int32) (l15 : Int32) (l19 : Int32) (l20 : Int32) (s : ga_M) : Option (Int32 × ga_M) :=
  if l19 ≤ 0 then
    f_L_law2_j643 xs LN go106 l2 l3 l4 l5 l10 l11 l12 l13 l14 l15 l19 l20 (-1) s
  else
    (f_X11_chainTeacher l5 (l19 - 1) s).bind fun q1501 =>
    Sum.elim (fun (x1503 : Int32) =>
      f_L_law2_j643 xs LN go106 l2 l3 l4 l5 l10 l11 l12 l13 l14 l15 l19 l20 x1503 q1501.2
    ) (fun e1502 =>
      none
    ) q1501.1
theorem fx_L_law2_j622 : ∃ f, f = fb_L_law2_j622 := ⟨_, rfl⟩
def f_L_law2_j622 : (Nat → Int32) → Nat → (Int32 → Int32 → ga_M → Option (Int32 × ga_M)) → Int32 → Int32 → Int32 → Int32 → Int32 → Int32 → Int32 → Int32 → Int32 → Int32 → Int32 → Int32 → ga_M → Option (Int32 × ga_M) := Classical.choose fx_L_law2_j622
theorem fe_L_law2_j622 : f_L_law2_j622 = fb_L_law2_j622 := Classical.choose_spec fx_L_law2_j622
def fb_L_law2_j596 (xs : Nat → Int32) (LN : Nat)  (go106 : Int32 → Int32 → ga_M → Option (Int32 × ga_M)) (l2 : Int32) (l3 : Int32) (l4 : Int32) (l5 : Int32) (l10 : Int32) (l11 : Int32) (l12 : Int32) (l13 : Int32) (l14 : Int32) (l15 : Int32) (s : ga_M) : Option (Int32 × ga_M) :=
  (f_X11_chain l5 s).bind fun q601 =>
  Sum.elim (fun (x603 : Int32) =>
    if x603 ≤ 0 then
      f_L_law2_j622 xs LN go106 l2 l3 l4 l5 l10 l11 l12 l13 l14 l15 x603 (-1) q601.2
    else
      (f_X11_chainTeacher l5 0 q601.2).bind fun q604 =>
      Sum.elim (fun (x606 : Int32) =>
        f_L_law2_j622 xs LN go106 l2 l3 l4 l5 l10 l11 l12 l13 l14 l15 x603 x606 q604.2
      ) (fun e605 =>
        none
      ) q604.1
  ) (fun e602 =>
    none
  ) q601.1
theorem fx_L_law2_j596 : ∃ f, f = fb_L_law2_j596 := ⟨_, rfl⟩
def f_L_law2_j596 : (Nat → Int32) → Nat → (Int32 → Int32 → ga_M → Option (Int32 × ga_M)) → Int32 → Int32 → Int32 → Int32 → Int32 → Int32 → Int32 → Int32 → Int32 → Int32 → ga_M → Option (Int32 × ga_M) := Classical.choose fx_L_law2_j596
theorem fe_L_law2_j596 : f_L_law2_j596 = fb_L_law2_j596 := Classical.choose_spec fx_L_law2_j596
def fb_L_law2_j752 (xs : Nat → Int32) (LN : Nat)  (go106 : Int32 → Int32 → ga_M → Option (Int32 × ga_M)) (l2 : Int32) (l3 : Int32) (l4 : Int32) (l5 : Int32) (l10 : Int32) (l11 : Int32) (l12 : Int32) (l13 : Int32) (l14 : Int32) (l15 : Int32) (l18 : Int32) (s : ga_M) : Option (Int32 × ga_M) :=
  (f_X11_repairAll s).bind fun q701 =>
  let v702 : Int32 := q701.1
  (f_X11_count 7 q701.2).bind fun x703 =>
  Sum.elim (fun (x705 : Int32) =>
    if x705 = (l12 - v702) then
      f_L_law2_j1165 xs LN go106 l2 l3 l4 l5 l10 l11 l12 l13 l14 l15 l18 q701.2
    else
      some (0, q701.2)
  ) (fun e704 =>
    none
  ) x703
theorem fx_L_law2_j752 : ∃ f, f = fb_L_law2_j752 := ⟨_, rfl⟩
def f_L_law2_j752 : (Nat → Int32) → Nat → (Int32 → Int32 → ga_M → Option (Int32 × ga_M)) → Int32 → Int32 → Int32 → Int32 → Int32 → Int32 → Int32 → Int32 → Int32 → Int32 → Int32 → ga_M → Option (Int32 × ga_M) := Classical.choose fx_L_law2_j752
theorem fe_L_law2_j752 : f_L_law2_j752 = fb_L_law2_j752 := Classical.choose_spec fx_L_law2_j752
def fb_L_law2_j774 (xs : Nat → Int32) (LN : Nat)  (go106 : Int32 → Int32 → ga_M → Option (Int32 × ga_M)) (l2 : Int32) (l3 : Int32) (l4 : Int32) (l5 : Int32) (l6 : Int32) (l10 : Int32) (l11 : Int32) (l12 : Int32) (l13 : Int32) (l14 : Int32) (l15 : Int32) (s : ga_M) : Option (Int32 × ga_M) :=
  (f_X11_whyNotExchange l5 l6 s).bind fun x801 =>
  Sum.elim (fun (x803 : Int32) =>
    (f_X11_lesson l6 0 s).bind fun x804 =>
    Sum.elim (fun (x806 : Int32) =>
      (f_X11_whyNotExchange l6 l5 s).bind fun x807 =>
      Sum.elim (fun (x809 : Int32) =>
        if x809 = x803 then
          (f_L_exchange_0 l5 l6 s).bind fun q810 =>
          Sum.elim (fun (x812 : Int32) =>
            if x812 ≤ (-1000) then
              if x803 = 0 then
                some (0, q810.2)
              else
                f_L_law2_j1165 xs LN go106 l2 l3 l4 l5 l10 l11 l12 l13 l14 l15 0 q810.2
            else
            if x803 = 0 then
              if x812 = x806 then
                (f_X11_lesson l6 0 q810.2).bind fun x813 =>
                Sum.elim (fun (x815 : Int32) =>
                  if x815 = l10 then
                    (f_X11_lesson l5 3 q810.2).bind fun x816 =>
                    Sum.elim (fun (x818 : Int32) =>
                      if x818 = l11 then
                        f_L_law2_j1165 xs LN go106 l2 l3 l4 l5 l10 l11 l12 l13 l14 l15 1 q810.2
                      else
                        some (0, q810.2)
                    ) (fun e817 =>
                      none
                    ) x816
                  else
                    some (0, q810.2)
                ) (fun e814 =>
                  none
                ) x813
              else
                some (0, q810.2)
            else
              some (0, q810.2)
          ) (fun e811 =>
            none
          ) q810.1
        else
          some (0, s)
      ) (fun e808 =>
        none
      ) x807
    ) (fun e805 =>
      none
    ) x804
  ) (fun e802 =>
    none
  ) x801
theorem fx_L_law2_j774 : ∃ f, f = fb_L_law2_j774 := ⟨_, rfl⟩
def f_L_law2_j774 : (Nat → Int32) → Nat → (Int32 → Int32 → ga_M → Option (Int32 × ga_M)) → Int32 → Int32 → Int32 → Int32 → Int32 → Int32 → Int32 → Int32 → Int32 → Int32 → Int32 → ga_M → Option (Int32 × ga_M) := Classical.choose fx_L_law2_j774
theorem fe_L_law2_j774 : f_L_law2_j774 = fb_L_law2_j774 := Classical.choose_spec fx_L_law2_j774
def fb_L_law2_j886 (xs : Nat → Int32) (LN : Nat)  (go106 : Int32 → Int32 → ga_M → Option (Int32 × ga_M)) (l2 : Int32) (l3 : Int32) (l4 : Int32) (l5 : Int32) (l8 : Int32) (l10 : Int32) (l11 : Int32) (l12 : Int32) (l13 : Int32) (l14 : Int32) (l15 : Int32) (s : ga_M) : Option (Int32 × ga_M) :=
  (f_X11_slotsFor l5 s).bind fun x901 =>
  Sum.elim (fun (x903 : Int32) =>
    if ((x903 >>> (l8 &&& 31)) &&& 1) = 1 then
      (f_L_move_0 l5 l8 s).bind fun q907 =>
      Sum.elim (fun (x909 : Int32) =>
        if x909 ≤ (-1000) then
          some (0, q907.2)
        else
        if x909 = l10 then
          (f_X11_lesson l5 0 q907.2).bind fun x910 =>
          Sum.elim (fun (x912 : Int32) =>
            if x912 = l8 then
              (f_X11_lesson l5 3 q907.2).bind fun x913 =>
              Sum.elim (fun (x915 : Int32) =>
                if x915 = l11 then
                  f_L_law2_j1165 xs LN go106 l2 l3 l4 l5 l10 l11 l12 l13 l14 l15 1 q907.2
                else
                  some (0, q907.2)
              ) (fun e914 =>
                none
              ) x913
            else
              some (0, q907.2)
          ) (fun e911 =>
            none
          ) x910
        else
          some (0, q907.2)
      ) (fun e908 =>
        none
      ) q907.1
    else
      (f_L_move_0 l5 l8 s).bind fun q904 =>
      Sum.elim (fun (x906 : Int32) =>
        if x906 ≤ (-1000) then
          f_L_law2_j1165 xs LN go106 l2 l3 l4 l5 l10 l11 l12 l13 l14 l15 0 q904.2
        else
          some (0, q904.2)
      ) (fun e905 =>
        none
      ) q904.1
  ) (fun e902 =>
    none
  ) x901
theorem fx_L_law2_j886 : ∃ f, f = fb_L_law2_j886 := ⟨_, rfl⟩
def f_L_law2_j886 : (Nat → Int32) → Nat → (Int32 → Int32 → ga_M → Option (Int32 × ga_M)) → Int32 → Int32 → Int32 → Int32 → Int32 → Int32 → Int32 → Int32 → Int32 → Int32 → Int32 → ga_M → Option (Int32 × ga_M) := Classical.choose fx_L_law2_j886
theorem fe_L_law2_j886 : f_L_law2_j886 = fb_L_law2_j886 := Classical.choose_spec fx_L_law2_j886
def fb_L_law2_j978 (xs : Nat → Int32) (LN : Nat)  (go106 : Int32 → Int32 → ga_M → Option (Int32 × ga_M)) (l2 : Int32) (l3 : Int32) (l4 : Int32) (l5 : Int32) (l9 : Int32) (l10 : Int32) (l11 : Int32) (l12 : Int32) (l13 : Int32) (l14 : Int32) (l15 : Int32) (s : ga_M) : Option (Int32 × ga_M) :=
  (f_X11_whyNotRoom l5 l9 s).bind fun x1001 =>
  Sum.elim (fun (x1003 : Int32) =>
    (f_X11_lesson l5 4 s).bind fun x1004 =>
    Sum.elim (fun (x1006 : Int32) =>
      (f_L_setRoom_0 l5 l9 s).bind fun q1007 =>
      Sum.elim (fun (x1009 : Int32) =>
        if x1009 ≤ (-1000) then
          if x1003 = 0 then
            some (0, q1007.2)
          else
            f_L_law2_j1165 xs LN go106 l2 l3 l4 l5 l10 l11 l12 l13 l14 l15 0 q1007.2
        else
        if x1003 = 0 then
          if x1009 = x1006 then
            (f_X11_lesson l5 4 q1007.2).bind fun x1010 =>
            Sum.elim (fun (x1012 : Int32) =>
              if x1012 = l9 then
                f_L_law2_j1165 xs LN go106 l2 l3 l4 l5 l10 l11 l12 l13 l14 l15 1 q1007.2
              else
                some (0, q1007.2)
            ) (fun e1011 =>
              none
            ) x1010
          else
            some (0, q1007.2)
        else
          some (0, q1007.2)
      ) (fun e1008 =>
        none
      ) q1007.1
    ) (fun e1005 =>
      none
    ) x1004
  ) (fun e1002 =>
    none
  ) x1001
theorem fx_L_law2_j978 : ∃ f, f = fb_L_law2_j978 := ⟨_, rfl⟩
def f_L_law2_j978 : (Nat → Int32) → Nat → (Int32 → Int32 → ga_M → Option (Int32 × ga_M)) → Int32 → Int32 → Int32 → Int32 → Int32 → Int32 → Int32 → Int32 → Int32 → Int32 → Int32 → ga_M → Option (Int32 × ga_M) := Classical.choose fx_L_law2_j978
theorem fe_L_law2_j978 : f_L_law2_j978 = fb_L_law2_j978 := Classical.choose_spec fx_L_law2_j978
def fb_L_law2_j1063 (xs : Nat → Int32) (LN : Nat)  (go106 : Int32 → Int32 → ga_M → Option (Int32 × ga_M)) (l2 : Int32) (l3 : Int32) (l4 : Int32) (l5 : Int32) (l10 : Int32) (l11 : Int32) (l12 : Int32) (l13 : Int32) (l14 : Int32) (l15 : Int32) (s : ga_M) : Option (Int32 × ga_M) :=
  (f_L_reopen_0 l5 s).bind fun q1101 =>
  Sum.elim (fun (x1103 : Int32) =>
    if x1103 ≤ (-1000) then
      if l11 < 0 then
        f_L_law2_j1165 xs LN go106 l2 l3 l4 l5 l10 l11 l12 l13 l14 l15 0 q1101.2
      else
        some (0, q1101.2)
    else
    if l11 < 0 then
      some (0, q1101.2)
    else
    if x1103 = l11 then
      (f_X11_lesson l5 3 q1101.2).bind fun x1104 =>
      Sum.elim (fun (x1106 : Int32) =>
        if x1106 = (-1) then
          f_L_law2_j1165 xs LN go106 l2 l3 l4 l5 l10 l11 l12 l13 l14 l15 1 q1101.2
        else
          some (0, q1101.2)
      ) (fun e1105 =>
        none
      ) x1104
    else
      some (0, q1101.2)
  ) (fun e1102 =>
    none
  ) q1101.1
theorem fx_L_law2_j1063 : ∃ f, f = fb_L_law2_j1063 := ⟨_, rfl⟩
def f_L_law2_j1063 : (Nat → Int32) → Nat → (Int32 → Int32 → ga_M → Option (Int32 × ga_M)) → Int32 → Int32 → Int32 → Int32 → Int32 → Int32 → Int32 → Int32 → Int32 → Int32 → ga_M → Option (Int32 × ga_M) := Classical.choose fx_L_law2_j1063
theorem fe_L_law2_j1063 : f_L_law2_j1063 = fb_L_law2_j1063 := Classical.choose_spec fx_L_law2_j1063
def fb_L_law2_j1126 (xs : Nat → Int32) (LN : Nat)  (go106 : Int32 → Int32 → ga_M → Option (Int32 × ga_M)) (l2 : Int32) (l3 : Int32) (l4 : Int32) (l5 : Int32) (l10 : Int32) (l11 : Int32) (l12 : Int32) (l13 : Int32) (l14 : Int32) (l15 : Int32) (l18 : Int32) (s : ga_M) : Option (Int32 × ga_M) :=
  (f_X11_reset s).bind fun q1201 =>
  let v1202 : Int32 := q1201.1
  if v1202 = l14 then
    (f_X11_count 8 q1201.2).bind fun x1203 =>
    Sum.elim (fun (x1205 : Int32) =>
      if x1205 = 0 then
        (f_X11_count 9 q1201.2).bind fun x1206 =>
        Sum.elim (fun (x1208 : Int32) =>
          (f_X11_count 7 q1201.2).bind fun x1209 =>
          Sum.elim (fun (x1211 : Int32) =>
            if x1208 = x1211 then
              f_L_law2_j1165 xs LN go106 l2 l3 l4 l5 l10 l11 l12 l13 l14 l15 l18 q1201.2
            else
              some (0, q1201.2)
          ) (fun e1210 =>
            none
          ) x1209
        ) (fun e1207 =>
          none
        ) x1206
      else
        some (0, q1201.2)
    ) (fun e1204 =>
      none
    ) x1203
  else
    some (0, q1201.2)
theorem fx_L_law2_j1126 : ∃ f, f = fb_L_law2_j1126 := ⟨_, rfl⟩
def f_L_law2_j1126 : (Nat → Int32) → Nat → (Int32 → Int32 → ga_M → Option (Int32 × ga_M)) → Int32 → Int32 → Int32 → Int32 → Int32 → Int32 → Int32 → Int32 → Int32 → Int32 → Int32 → ga_M → Option (Int32 × ga_M) := Classical.choose fx_L_law2_j1126
theorem fe_L_law2_j1126 : f_L_law2_j1126 = fb_L_law2_j1126 := Classical.choose_spec fx_L_law2_j1126
def fb_L_law2_j238 (xs : Nat → Int32) (LN : Nat)  (go106 : Int32 → Int32 → ga_M → Option (Int32 × ga_M)) (l2 : Int32) (l3 : Int32) (l4 : Int32) (l5 : Int32) (l6 : Int32) (l7 : Int32) (l8 : Int32) (l9 : Int32) (l10 : Int32) (l11 : Int32) (l12 : Int32) (l13 : Int32) (l14 : Int32) (l15 : Int32) (l16 : Int32) (l18 : Int32) (s : ga_M) : Option (Int32 × ga_M) :=
  if (l4 &&& 15) = 0 then
    f_L_law2_j316 xs LN go106 l2 l3 l4 l5 l7 l10 l11 l12 l13 l14 l15 l18 s
  else
  if (l4 &&& 15) = 1 then
    f_L_law2_j316 xs LN go106 l2 l3 l4 l5 l7 l10 l11 l12 l13 l14 l15 l18 s
  else
  if (l4 &&& 15) = 2 then
    f_L_law2_j316 xs LN go106 l2 l3 l4 l5 l7 l10 l11 l12 l13 l14 l15 l18 s
  else
  if (l4 &&& 15) = 3 then
    f_L_law2_j414 xs LN go106 l2 l3 l4 l5 l7 l10 l11 l12 l13 l14 l15 l16 s
  else
  if (l4 &&& 15) = 4 then
    f_L_law2_j414 xs LN go106 l2 l3 l4 l5 l7 l10 l11 l12 l13 l14 l15 l16 s
  else
  if (l4 &&& 15) = 5 then
    f_L_law2_j502 xs LN go106 l2 l3 l4 l5 l7 l10 l11 l12 l13 l14 l15 s
  else
  if (l4 &&& 15) = 6 then
    f_L_law2_j596 xs LN go106 l2 l3 l4 l5 l10 l11 l12 l13 l14 l15 s
  else
  if (l4 &&& 15) = 7 then
    f_L_law2_j596 xs LN go106 l2 l3 l4 l5 l10 l11 l12 l13 l14 l15 s
  else
  if (l4 &&& 15) = 8 then
    f_L_law2_j752 xs LN go106 l2 l3 l4 l5 l10 l11 l12 l13 l14 l15 l18 s
  else
  if (l4 &&& 15) = 9 then
    f_L_law2_j774 xs LN go106 l2 l3 l4 l5 l6 l10 l11 l12 l13 l14 l15 s
  else
  if (l4 &&& 15) = 10 then
    f_L_law2_j774 xs LN go106 l2 l3 l4 l5 l6 l10 l11 l12 l13 l14 l15 s
  else
  if (l4 &&& 15) = 11 then
    f_L_law2_j886 xs LN go106 l2 l3 l4 l5 l8 l10 l11 l12 l13 l14 l15 s
  else
  if (l4 &&& 15) = 12 then
    f_L_law2_j886 xs LN go106 l2 l3 l4 l5 l8 l10 l11 l12 l13 l14 l15 s
  else
  if (l4 &&& 15) = 13 then
    f_L_law2_j978 xs LN go106 l2 l3 l4 l5 l9 l10 l11 l12 l13 l14 l15 s
  else
  if (l4 &&& 15) = 14 then
    f_L_law2_j1063 xs LN go106 l2 l3 l4 l5 l10 l11 l12 l13 l14 l15 s
  else
    f_L_law2_j1126 xs LN go106 l2 l3 l4 l5 l10 l11 l12 l13 l14 l15 l18 s
theorem fx_L_law2_j238 : ∃ f, f = fb_L_law2_j238 := ⟨_, rfl⟩
def f_L_law2_j238 : (Nat → Int32) → Nat → (Int32 → Int32 → ga_M → Option (Int32 × ga_M)) → Int32 → Int32 → Int32 → Int32 → Int32 → Int32 → Int32 → Int32 → Int32 → Int32 → Int32 → Int32 → Int32 → Int32 → Int32 → Int32 → ga_M → Option (Int32 × ga_M) := Classical.choose fx_L_law2_j238
theorem fe_L_law2_j238 : f_L_law2_j238 = fb_L_law2_j238 := Classical.choose_spec fx_L_law2_j238
def f_L_law2_h106 (xs : Nat → Int32) (LN : Nat)  : Nat → Int32 → Int32 → ga_M → Option (Int32 × ga_M)
  | 0, _, _, _ => none
  | n + 1, l2, l3, s =>
    if 14 ≤ l3 then
      some (1, s)
    else
      (gw_cell xs LN l3 s).bind fun x101 =>
      if (7 : Int32) = 0 then
        none
      else
        let v102 : Int32 := ((((x101).toUInt32 >>> ((4 : Int32).toUInt32 &&& Int32.toUInt32 31)).toInt32 &&& 7) - (((x101).toUInt32 >>> ((4 : Int32).toUInt32 &&& Int32.toUInt32 31)).toInt32 &&& 7) / 7 * 7)
        if (7 : Int32) = 0 then
          none
        else
          let v103 : Int32 := ((((x101).toUInt32 >>> ((7 : Int32).toUInt32 &&& Int32.toUInt32 31)).toInt32 &&& 7) - (((x101).toUInt32 >>> ((7 : Int32).toUInt32 &&& Int32.toUInt32 31)).toInt32 &&& 7) / 7 * 7)
          let v104 : Int32 := (((x101).toUInt32 >>> ((10 : Int32).toUInt32 &&& Int32.toUInt32 31)).toInt32 &&& 3)
          if (6 : Int32) = 0 then
            none
          else
            let v105 : Int32 := ((((x101).toUInt32 >>> ((12 : Int32).toUInt32 &&& Int32.toUInt32 31)).toInt32 &&& 7) - (((x101).toUInt32 >>> ((12 : Int32).toUInt32 &&& Int32.toUInt32 31)).toInt32 &&& 7) / 6 * 6)
            if (3 : Int32) = 0 then
              none
            else
              let v106 : Int32 := ((((x101).toUInt32 >>> ((15 : Int32).toUInt32 &&& Int32.toUInt32 31)).toInt32 &&& 3) - (((x101).toUInt32 >>> ((15 : Int32).toUInt32 &&& Int32.toUInt32 31)).toInt32 &&& 3) / 3 * 3)
              (f_X11_lesson v102 0 s).bind fun x107 =>
              Sum.elim (fun (x109 : Int32) =>
                (f_X11_lesson v102 3 s).bind fun x110 =>
                Sum.elim (fun (x112 : Int32) =>
                  (f_X11_count 7 s).bind fun x113 =>
                  Sum.elim (fun (x115 : Int32) =>
                    (f_X11_count 8 s).bind fun x116 =>
                    Sum.elim (fun (x118 : Int32) =>
                      (f_X11_count 9 s).bind fun x119 =>
                      Sum.elim (fun (x121 : Int32) =>
                        (f_X11_writeReport 0 s).bind fun q122 =>
                        Sum.elim (fun (x124 : Int32) =>
                          (f_X11_teacher v104 4 q122.2).bind fun x125 =>
                          Sum.elim (fun (x127 : Int32) =>
                            f_L_law2_j238 xs LN (f_L_law2_h106 xs LN n) l2 l3 x101 v102 v103 v104 v105 v106 x109 x112 x115 x118 x121 x124 x127 1 q122.2
                          ) (fun e126 =>
                            none
                          ) x125
                        ) (fun e123 =>
                          none
                        ) q122.1
                      ) (fun e120 =>
                        none
                      ) x119
                    ) (fun e117 =>
                      none
                    ) x116
                  ) (fun e114 =>
                    none
                  ) x113
                ) (fun e111 =>
                  none
                ) x110
              ) (fun e108 =>
                none
              ) x107
def fb_L_law2 (xs : Nat → Int32) (LN : Nat)  (s : ga_M) : Option (Int32 × ga_M) :=
  (f_X11_parseSchool s).bind fun q1 =>
  if q1.1 = 7 then
    (f_X11_count 0 q1.2).bind fun x2 =>
    Sum.elim (fun (x4 : Int32) =>
      if x4 = 2 then
        (f_X11_count 1 q1.2).bind fun x5 =>
        Sum.elim (fun (x7 : Int32) =>
          if x7 = 3 then
            (f_X11_subject 1 1 q1.2).bind fun x8 =>
            Sum.elim (fun (x10 : Int32) =>
              if x10 = 14 then
                (f_X11_freeTeachers 0 q1.2).bind fun x11 =>
                Sum.elim (fun (x13 : Int32) =>
                  if x13 = 10 then
                    (f_X11_freeRooms 0 0 q1.2).bind fun x14 =>
                    Sum.elim (fun (x16 : Int32) =>
                      if x16 = 4 then
                        (f_X11_windows 1 0 q1.2).bind fun x17 =>
                        Sum.elim (fun (x19 : Int32) =>
                          if x19 = 0 then
                            (f_X11_count 9 q1.2).bind fun x20 =>
                            Sum.elim (fun (x22 : Int32) =>
                              if x22 = 0 then
                                (f_X11_whyNotCover 0 3 q1.2).bind fun x23 =>
                                Sum.elim (fun (x25 : Int32) =>
                                  if x25 = 1 then
                                    f_L_law2_h106 xs LN gv_f15 0 0 q1.2
                                  else
                                    some (0, q1.2)
                                ) (fun e24 =>
                                  none
                                ) x23
                              else
                                some (0, q1.2)
                            ) (fun e21 =>
                              none
                            ) x20
                          else
                            some (0, q1.2)
                        ) (fun e18 =>
                          none
                        ) x17
                      else
                        some (0, q1.2)
                    ) (fun e15 =>
                      none
                    ) x14
                  else
                    some (0, q1.2)
                ) (fun e12 =>
                  none
                ) x11
              else
                some (0, q1.2)
            ) (fun e9 =>
              none
            ) x8
          else
            some (0, q1.2)
        ) (fun e6 =>
          none
        ) x5
      else
        some (0, q1.2)
    ) (fun e3 =>
      none
    ) x2
  else
    some (0, q1.2)
theorem fx_L_law2 : ∃ f, f = fb_L_law2 := ⟨_, rfl⟩
def f_L_law2 : (Nat → Int32) → Nat → ga_M → Option (Int32 × ga_M) := Classical.choose fx_L_law2
theorem fe_L_law2 : f_L_law2 = fb_L_law2 := Classical.choose_spec fx_L_law2
def f_L_law1 (xs : Nat → Int32) (LN : Nat) (s : ga_M) : Option (Int32 × ga_M) := (f_L_type s).bind fun s1 => f_L_law2 xs LN s1
def f_L_law (xs : Nat → Int32) (LN : Nat) (s : ga_M) : Option (Int32 × ga_M) := (zk_X11_init_0 (ga_z s 0)).bind fun q => bif gk_eq q.1 gkB_X11_init_0 then f_L_law1 xs LN q.2 else none
end
