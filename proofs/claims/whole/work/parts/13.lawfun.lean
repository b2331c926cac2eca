noncomputable section
def gk_fe : ga_F → ga_F → Bool
  | none, none => true
  | some none, some none => true
  | some (some a), some (some b) => Nat.beq a b
  | _, _ => false
def gk_fl : List ga_F → List ga_F → Bool
  | [], [] => true
  | a :: x, b :: y => gk_fe a b && gk_fl x y
  | _, _ => false
def gk_se : ga_Sh → ga_Sh → Bool
  | .inl a, .inl b => Nat.beq a.1 b.1 && gk_fl a.2 b.2
  | .inr a, .inr b => Nat.beq a.1 b.1 && Nat.beq a.2 b.2
  | _, _ => false
def gk_eq : ga_S → ga_S → Bool
  | [], [] => true
  | a :: x, b :: y => gk_se a b && gk_eq x y
  | _, _ => false
theorem gk_fe_eq : ∀ {a b : ga_F}, gk_fe a b = true → a = b
  | none, none, _ => rfl
  | some none, some none, _ => rfl
  | some (some a), some (some b), h => by
    have : Nat.beq a b = true := h
    rw [Nat.eq_of_beq_eq_true this]
  | none, some none, h => by cases h
  | none, some (some _), h => by cases h
  | some none, none, h => by cases h
  | some none, some (some _), h => by cases h
  | some (some _), none, h => by cases h
  | some (some _), some none, h => by cases h
theorem gk_fl_eq : ∀ {a b : List ga_F}, gk_fl a b = true → a = b
  | [], [], _ => rfl
  | a :: x, b :: y, h => by
    obtain ⟨h1, h2⟩ := Bool.and_eq_true_iff.mp (show (gk_fe a b && gk_fl x y) = true from h)
    rw [gk_fe_eq h1, gk_fl_eq h2]
  | [], _ :: _, h => by cases h
  | _ :: _, [], h => by cases h
theorem gk_se_eq : ∀ {a b : ga_Sh}, gk_se a b = true → a = b
  | .inl a, .inl b, h => by
    obtain ⟨h1, h2⟩ := Bool.and_eq_true_iff.mp (show (Nat.beq a.1 b.1 && gk_fl a.2 b.2) = true from h)
    exact congrArg Sum.inl (Prod.ext (Nat.eq_of_beq_eq_true h1) (gk_fl_eq h2))
  | .inr a, .inr b, h => by
    obtain ⟨h1, h2⟩ := Bool.and_eq_true_iff.mp (show (Nat.beq a.1 b.1 && Nat.beq a.2 b.2) = true from h)
    exact congrArg Sum.inr (Prod.ext (Nat.eq_of_beq_eq_true h1) (Nat.eq_of_beq_eq_true h2))
  | .inl _, .inr _, h => by cases h
  | .inr _, .inl _, h => by cases h
theorem gk_eq_eq : ∀ {a b : ga_S}, gk_eq a b = true → a = b
  | [], [], _ => rfl
  | a :: x, b :: y, h => by
    obtain ⟨h1, h2⟩ := Bool.and_eq_true_iff.mp (show (gk_se a b && gk_eq x y) = true from h)
    rw [gk_se_eq h1, gk_eq_eq h2]
  | [], _ :: _, h => by cases h
  | _ :: _, [], h => by cases h
def gkA_X7_init_1 : ga_S := [.inl (11, [some none, some none, some none, some none, some none, some none, some none, some none, some none, some none]), .inl (7, [none, none, none, none, none, none, none, some none, some none, some none, some none, some none, some none, some none, some none, some none])]
def gkB_X7_init_1 : ga_S := [.inl (11, [some none, some none, some none, some none, some none, some none, some none, some none, some none, some none]), .inl (7, [none, none, none, none, none, none, none, some (some 2), some (some 4), some (some 6), some (some 8), some (some 10), some (some 12), some (some 14), some (some 16), some (some 18)]), .inl (6, [some (some 3)]), .inr (0, 6), .inl (6, [some (some 5)]), .inr (0, 8), .inl (6, [some (some 7)]), .inr (0, 8), .inl (6, [some (some 9)]), .inr (0, 6), .inl (6, [some (some 11)]), .inr (0, 40), .inl (6, [some (some 13)]), .inr (0, 40), .inl (6, [some (some 15)]), .inr (0, 40), .inl (6, [some (some 17)]), .inr (0, 40), .inl (6, [some (some 19)]), .inr (0, 40)]
def gkA_X3_init_20 : ga_S := [.inl (11, [some (some 1), some none, some none, some none, some none, some none, some none, some none, some none, some none]), .inl (7, [none, none, none, none, none, none, none, some (some 2), some (some 4), some (some 6), some (some 8), some (some 10), some (some 12), some (some 14), some (some 16), some (some 18)]), .inl (6, [some (some 3)]), .inr (0, 6), .inl (6, [some (some 5)]), .inr (0, 8), .inl (6, [some (some 7)]), .inr (0, 8), .inl (6, [some (some 9)]), .inr (0, 6), .inl (6, [some (some 11)]), .inr (0, 40), .inl (6, [some (some 13)]), .inr (0, 40), .inl (6, [some (some 15)]), .inr (0, 40), .inl (6, [some (some 17)]), .inr (0, 40), .inl (6, [some (some 19)]), .inr (0, 40), .inl (3, [some none, some none, some none, some none, some none, some none])]
def gkB_X3_init_20 : ga_S := [.inl (11, [some (some 1), some none, some none, some none, some none, some none, some none, some none, some none, some none]), .inl (7, [none, none, none, none, none, none, none, some (some 2), some (some 4), some (some 6), some (some 8), some (some 10), some (some 12), some (some 14), some (some 16), some (some 18)]), .inl (6, [some (some 3)]), .inr (0, 6), .inl (6, [some (some 5)]), .inr (0, 8), .inl (6, [some (some 7)]), .inr (0, 8), .inl (6, [some (some 9)]), .inr (0, 6), .inl (6, [some (some 11)]), .inr (0, 40), .inl (6, [some (some 13)]), .inr (0, 40), .inl (6, [some (some 15)]), .inr (0, 40), .inl (6, [some (some 17)]), .inr (0, 40), .inl (6, [some (some 19)]), .inr (0, 40), .inl (3, [some (some 1), some (some 21), some (some 23), some (some 25), some (some 27), some (some 29)]), .inl (6, [some (some 22)]), .inr (0, 40), .inl (6, [some (some 24)]), .inr (0, 40), .inl (6, [some (some 26)]), .inr (0, 40), .inl (6, [some (some 28)]), .inr (0, 40), .inl (6, [some (some 30)]), .inr (0, 8)]
def gkA_X4_init_31 : ga_S := [.inl (11, [some (some 1), some (some 20), some none, some none, some none, some none, some none, some none, some none, some none]), .inl (7, [none, none, none, none, none, none, none, some (some 2), some (some 4), some (some 6), some (some 8), some (some 10), some (some 12), some (some 14), some (some 16), some (some 18)]), .inl (6, [some (some 3)]), .inr (0, 6), .inl (6, [some (some 5)]), .inr (0, 8), .inl (6, [some (some 7)]), .inr (0, 8), .inl (6, [some (some 9)]), .inr (0, 6), .inl (6, [some (some 11)]), .inr (0, 40), .inl (6, [some (some 13)]), .inr (0, 40), .inl (6, [some (some 15)]), .inr (0, 40), .inl (6, [some (some 17)]), .inr (0, 40), .inl (6, [some (some 19)]), .inr (0, 40), .inl (3, [some (some 1), some (some 21), some (some 23), some (some 25), some (some 27), some (some 29)]), .inl (6, [some (some 22)]), .inr (0, 40), .inl (6, [some (some 24)]), .inr (0, 40), .inl (6, [some (some 26)]), .inr (0, 40), .inl (6, [some (some 28)]), .inr (0, 40), .inl (6, [some (some 30)]), .inr (0, 8), .inl (4, [some none, some none])]
def gkB_X4_init_31 : ga_S := [.inl (11, [some (some 1), some (some 20), some none, some none, some none, some none, some none, some none, some none, some none]), .inl (7, [none, none, none, none, none, none, none, some (some 2), some (some 4), some (some 6), some (some 8), some (some 10), some (some 12), some (some 14), some (some 16), some (some 18)]), .inl (6, [some (some 3)]), .inr (0, 6), .inl (6, [some (some 5)]), .inr (0, 8), .inl (6, [some (some 7)]), .inr (0, 8), .inl (6, [some (some 9)]), .inr (0, 6), .inl (6, [some (some 11)]), .inr (0, 40), .inl (6, [some (some 13)]), .inr (0, 40), .inl (6, [some (some 15)]), .inr (0, 40), .inl (6, [some (some 17)]), .inr (0, 40), .inl (6, [some (some 19)]), .inr (0, 40), .inl (3, [some (some 1), some (some 21), some (some 23), some (some 25), some (some 27), some (some 29)]), .inl (6, [some (some 22)]), .inr (0, 40), .inl (6, [some (some 24)]), .inr (0, 40), .inl (6, [some (some 26)]), .inr (0, 40), .inl (6, [some (some 28)]), .inr (0, 40), .inl (6, [some (some 30)]), .inr (0, 8), .inl (4, [some (some 1), some (some 20)])]
def gkA_X0_init_32 : ga_S := [.inl (11, [some (some 1), some (some 20), some (some 31), some none, some none, some none, some none, some none, some none, some none]), .inl (7, [none, none, none, none, none, none, none, some (some 2), some (some 4), some (some 6), some (some 8), some (some 10), some (some 12), some (some 14), some (some 16), some (some 18)]), .inl (6, [some (some 3)]), .inr (0, 6), .inl (6, [some (some 5)]), .inr (0, 8), .inl (6, [some (some 7)]), .inr (0, 8), .inl (6, [some (some 9)]), .inr (0, 6), .inl (6, [some (some 11)]), .inr (0, 40), .inl (6, [some (some 13)]), .inr (0, 40), .inl (6, [some (some 15)]), .inr (0, 40), .inl (6, [some (some 17)]), .inr (0, 40), .inl (6, [some (some 19)]), .inr (0, 40), .inl (3, [some (some 1), some (some 21), some (some 23), some (some 25), some (some 27), some (some 29)]), .inl (6, [some (some 22)]), .inr (0, 40), .inl (6, [some (some 24)]), .inr (0, 40), .inl (6, [some (some 26)]), .inr (0, 40), .inl (6, [some (some 28)]), .inr (0, 40), .inl (6, [some (some 30)]), .inr (0, 8), .inl (4, [some (some 1), some (some 20)]), .inl (0, [some none, some none, some none, some none, some none, some none, none])]
def gkB_X0_init_32 : ga_S := [.inl (11, [some (some 1), some (some 20), some (some 31), some none, some none, some none, some none, some none, some none, some none]), .inl (7, [none, none, none, none, none, none, none, some (some 2), some (some 4), some (some 6), some (some 8), some (some 10), some (some 12), some (some 14), some (some 16), some (some 18)]), .inl (6, [some (some 3)]), .inr (0, 6), .inl (6, [some (some 5)]), .inr (0, 8), .inl (6, [some (some 7)]), .inr (0, 8), .inl (6, [some (some 9)]), .inr (0, 6), .inl (6, [some (some 11)]), .inr (0, 40), .inl (6, [some (some 13)]), .inr (0, 40), .inl (6, [some (some 15)]), .inr (0, 40), .inl (6, [some (some 17)]), .inr (0, 40), .inl (6, [some (some 19)]), .inr (0, 40), .inl (3, [some (some 1), some (some 21), some (some 23), some (some 25), some (some 27), some (some 29)]), .inl (6, [some (some 22)]), .inr (0, 40), .inl (6, [some (some 24)]), .inr (0, 40), .inl (6, [some (some 26)]), .inr (0, 40), .inl (6, [some (some 28)]), .inr (0, 40), .inl (6, [some (some 30)]), .inr (0, 8), .inl (4, [some (some 1), some (some 20)]), .inl (0, [some (some 1), some (some 20), some (some 33), some (some 35), some (some 37), some (some 39), none]), .inl (6, [some (some 34)]), .inr (0, 8), .inl (6, [some (some 36)]), .inr (0, 4), .inl (6, [some (some 38)]), .inr (0, 4), .inl (6, [some (some 40)]), .inr (0, 4)]
def gkA_X2_init_41 : ga_S := [.inl (11, [some (some 1), some (some 20), some (some 31), some (some 32), some none, some none, some none, some none, some none, some none]), .inl (7, [none, none, none, none, none, none, none, some (some 2), some (some 4), some (some 6), some (some 8), some (some 10), some (some 12), some (some 14), some (some 16), some (some 18)]), .inl (6, [some (some 3)]), .inr (0, 6), .inl (6, [some (some 5)]), .inr (0, 8), .inl (6, [some (some 7)]), .inr (0, 8), .inl (6, [some (some 9)]), .inr (0, 6), .inl (6, [some (some 11)]), .inr (0, 40), .inl (6, [some (some 13)]), .inr (0, 40), .inl (6, [some (some 15)]), .inr (0, 40), .inl (6, [some (some 17)]), .inr (0, 40), .inl (6, [some (some 19)]), .inr (0, 40), .inl (3, [some (some 1), some (some 21), some (some 23), some (some 25), some (some 27), some (some 29)]), .inl (6, [some (some 22)]), .inr (0, 40), .inl (6, [some (some 24)]), .inr (0, 40), .inl (6, [some (some 26)]), .inr (0, 40), .inl (6, [some (some 28)]), .inr (0, 40), .inl (6, [some (some 30)]), .inr (0, 8), .inl (4, [some (some 1), some (some 20)]), .inl (0, [some (some 1), some (some 20), some (some 33), some (some 35), some (some 37), some (some 39), none]), .inl (6, [some (some 34)]), .inr (0, 8), .inl (6, [some (some 36)]), .inr (0, 4), .inl (6, [some (some 38)]), .inr (0, 4), .inl (6, [some (some 40)]), .inr (0, 4), .inl (2, [some none, some none, some none, some none])]
def gkB_X2_init_41 : ga_S := [.inl (11, [some (some 1), some (some 20), some (some 31), some (some 32), some none, some none, some none, some none, some none, some none]), .inl (7, [none, none, none, none, none, none, none, some (some 2), some (some 4), some (some 6), some (some 8), some (some 10), some (some 12), some (some 14), some (some 16), some (some 18)]), .inl (6, [some (some 3)]), .inr (0, 6), .inl (6, [some (some 5)]), .inr (0, 8), .inl (6, [some (some 7)]), .inr (0, 8), .inl (6, [some (some 9)]), .inr (0, 6), .inl (6, [some (some 11)]), .inr (0, 40), .inl (6, [some (some 13)]), .inr (0, 40), .inl (6, [some (some 15)]), .inr (0, 40), .inl (6, [some (some 17)]), .inr (0, 40), .inl (6, [some (some 19)]), .inr (0, 40), .inl (3, [some (some 1), some (some 21), some (some 23), some (some 25), some (some 27), some (some 29)]), .inl (6, [some (some 22)]), .inr (0, 40), .inl (6, [some (some 24)]), .inr (0, 40), .inl (6, [some (some 26)]), .inr (0, 40), .inl (6, [some (some 28)]), .inr (0, 40), .inl (6, [some (some 30)]), .inr (0, 8), .inl (4, [some (some 1), some (some 20)]), .inl (0, [some (some 1), some (some 20), some (some 33), some (some 35), some (some 37), some (some 39), none]), .inl (6, [some (some 34)]), .inr (0, 8), .inl (6, [some (some 36)]), .inr (0, 4), .inl (6, [some (some 38)]), .inr (0, 4), .inl (6, [some (some 40)]), .inr (0, 4), .inl (2, [some (some 1), some (some 20), some (some 31), some (some 32)])]
def gkA_X1_init_42 : ga_S := [.inl (11, [some (some 1), some (some 20), some (some 31), some (some 32), some (some 41), some none, some none, some none, some none, some none]), .inl (7, [none, none, none, none, none, none, none, some (some 2), some (some 4), some (some 6), some (some 8), some (some 10), some (some 12), some (some 14), some (some 16), some (some 18)]), .inl (6, [some (some 3)]), .inr (0, 6), .inl (6, [some (some 5)]), .inr (0, 8), .inl (6, [some (some 7)]), .inr (0, 8), .inl (6, [some (some 9)]), .inr (0, 6), .inl (6, [some (some 11)]), .inr (0, 40), .inl (6, [some (some 13)]), .inr (0, 40), .inl (6, [some (some 15)]), .inr (0, 40), .inl (6, [some (some 17)]), .inr (0, 40), .inl (6, [some (some 19)]), .inr (0, 40), .inl (3, [some (some 1), some (some 21), some (some 23), some (some 25), some (some 27), some (some 29)]), .inl (6, [some (some 22)]), .inr (0, 40), .inl (6, [some (some 24)]), .inr (0, 40), .inl (6, [some (some 26)]), .inr (0, 40), .inl (6, [some (some 28)]), .inr (0, 40), .inl (6, [some (some 30)]), .inr (0, 8), .inl (4, [some (some 1), some (some 20)]), .inl (0, [some (some 1), some (some 20), some (some 33), some (some 35), some (some 37), some (some 39), none]), .inl (6, [some (some 34)]), .inr (0, 8), .inl (6, [some (some 36)]), .inr (0, 4), .inl (6, [some (some 38)]), .inr (0, 4), .inl (6, [some (some 40)]), .inr (0, 4), .inl (2, [some (some 1), some (some 20), some (some 31), some (some 32)]), .inl (1, [some none, some none, none, none])]
def gkB_X1_init_42 : ga_S := [.inl (11, [some (some 1), some (some 20), some (some 31), some (some 32), some (some 41), some none, some none, some none, some none, some none]), .inl (7, [none, none, none, none, none, none, none, some (some 2), some (some 4), some (some 6), some (some 8), some (some 10), some (some 12), some (some 14), some (some 16), some (some 18)]), .inl (6, [some (some 3)]), .inr (0, 6), .inl (6, [some (some 5)]), .inr (0, 8), .inl (6, [some (some 7)]), .inr (0, 8), .inl (6, [some (some 9)]), .inr (0, 6), .inl (6, [some (some 11)]), .inr (0, 40), .inl (6, [some (some 13)]), .inr (0, 40), .inl (6, [some (some 15)]), .inr (0, 40), .inl (6, [some (some 17)]), .inr (0, 40), .inl (6, [some (some 19)]), .inr (0, 40), .inl (3, [some (some 1), some (some 21), some (some 23), some (some 25), some (some 27), some (some 29)]), .inl (6, [some (some 22)]), .inr (0, 40), .inl (6, [some (some 24)]), .inr (0, 40), .inl (6, [some (some 26)]), .inr (0, 40), .inl (6, [some (some 28)]), .inr (0, 40), .inl (6, [some (some 30)]), .inr (0, 8), .inl (4, [some (some 1), some (some 20)]), .inl (0, [some (some 1), some (some 20), some (some 33), some (some 35), some (some 37), some (some 39), none]), .inl (6, [some (some 34)]), .inr (0, 8), .inl (6, [some (some 36)]), .inr (0, 4), .inl (6, [some (some 38)]), .inr (0, 4), .inl (6, [some (some 40)]), .inr (0, 4), .inl (2, [some (some 1), some (some 20), some (some 31), some (some 32)]), .inl (1, [some (some 20), some (some 43), none, none]), .inl (6, [some (some 44)]), .inr (0, 1848)]
def gkA_X10_init_45 : ga_S := [.inl (11, [some (some 1), some (some 20), some (some 31), some (some 32), some (some 41), some (some 42), some none, some none, some none, some none]), .inl (7, [none, none, none, none, none, none, none, some (some 2), some (some 4), some (some 6), some (some 8), some (some 10), some (some 12), some (some 14), some (some 16), some (some 18)]), .inl (6, [some (some 3)]), .inr (0, 6), .inl (6, [some (some 5)]), .inr (0, 8), .inl (6, [some (some 7)]), .inr (0, 8), .inl (6, [some (some 9)]), .inr (0, 6), .inl (6, [some (some 11)]), .inr (0, 40), .inl (6, [some (some 13)]), .inr (0, 40), .inl (6, [some (some 15)]), .inr (0, 40), .inl (6, [some (some 17)]), .inr (0, 40), .inl (6, [some (some 19)]), .inr (0, 40), .inl (3, [some (some 1), some (some 21), some (some 23), some (some 25), some (some 27), some (some 29)]), .inl (6, [some (some 22)]), .inr (0, 40), .inl (6, [some (some 24)]), .inr (0, 40), .inl (6, [some (some 26)]), .inr (0, 40), .inl (6, [some (some 28)]), .inr (0, 40), .inl (6, [some (some 30)]), .inr (0, 8), .inl (4, [some (some 1), some (some 20)]), .inl (0, [some (some 1), some (some 20), some (some 33), some (some 35), some (some 37), some (some 39), none]), .inl (6, [some (some 34)]), .inr (0, 8), .inl (6, [some (some 36)]), .inr (0, 4), .inl (6, [some (some 38)]), .inr (0, 4), .inl (6, [some (some 40)]), .inr (0, 4), .inl (2, [some (some 1), some (some 20), some (some 31), some (some 32)]), .inl (1, [some (some 20), some (some 43), none, none]), .inl (6, [some (some 44)]), .inr (0, 1848), .inl (10, [some none, none, none, none, none, none, none, none])]
def gkB_X10_init_45 : ga_S := [.inl (11, [some (some 1), some (some 20), some (some 31), some (some 32), some (some 41), some (some 42), some none, some none, some none, some none]), .inl (7, [none, none, none, none, none, none, none, some (some 2), some (some 4), some (some 6), some (some 8), some (some 10), some (some 12), some (some 14), some (some 16), some (some 18)]), .inl (6, [some (some 3)]), .inr (0, 6), .inl (6, [some (some 5)]), .inr (0, 8), .inl (6, [some (some 7)]), .inr (0, 8), .inl (6, [some (some 9)]), .inr (0, 6), .inl (6, [some (some 11)]), .inr (0, 40), .inl (6, [some (some 13)]), .inr (0, 40), .inl (6, [some (some 15)]), .inr (0, 40), .inl (6, [some (some 17)]), .inr (0, 40), .inl (6, [some (some 19)]), .inr (0, 40), .inl (3, [some (some 1), some (some 21), some (some 23), some (some 25), some (some 27), some (some 29)]), .inl (6, [some (some 22)]), .inr (0, 40), .inl (6, [some (some 24)]), .inr (0, 40), .inl (6, [some (some 26)]), .inr (0, 40), .inl (6, [some (some 28)]), .inr (0, 40), .inl (6, [some (some 30)]), .inr (0, 8), .inl (4, [some (some 1), some (some 20)]), .inl (0, [some (some 1), some (some 20), some (some 33), some (some 35), some (some 37), some (some 39), none]), .inl (6, [some (some 34)]), .inr (0, 8), .inl (6, [some (some 36)]), .inr (0, 4), .inl (6, [some (some 38)]), .inr (0, 4), .inl (6, [some (some 40)]), .inr (0, 4), .inl (2, [some (some 1), some (some 20), some (some 31), some (some 32)]), .inl (1, [some (some 20), some (some 43), none, none]), .inl (6, [some (some 44)]), .inr (0, 1848), .inl (10, [some (some 46), none, none, none, none, none, none, none]), .inl (6, [some (some 47)]), .inr (0, 900)]
def gkA_X7_init_49 : ga_S := [.inl (11, [some (some 1), some (some 20), some (some 31), some (some 32), some (some 41), some (some 42), some (some 45), some none, some none, some none]), .inl (7, [none, none, none, none, none, none, none, some (some 2), some (some 4), some (some 6), some (some 8), some (some 10), some (some 12), some (some 14), some (some 16), some (some 18)]), .inl (6, [some (some 3)]), .inr (0, 6), .inl (6, [some (some 5)]), .inr (0, 8), .inl (6, [some (some 7)]), .inr (0, 8), .inl (6, [some (some 9)]), .inr (0, 6), .inl (6, [some (some 11)]), .inr (0, 40), .inl (6, [some (some 13)]), .inr (0, 40), .inl (6, [some (some 15)]), .inr (0, 40), .inl (6, [some (some 17)]), .inr (0, 40), .inl (6, [some (some 19)]), .inr (0, 40), .inl (3, [some (some 1), some (some 21), some (some 23), some (some 25), some (some 27), some (some 29)]), .inl (6, [some (some 22)]), .inr (0, 40), .inl (6, [some (some 24)]), .inr (0, 40), .inl (6, [some (some 26)]), .inr (0, 40), .inl (6, [some (some 28)]), .inr (0, 40), .inl (6, [some (some 30)]), .inr (0, 8), .inl (4, [some (some 1), some (some 20)]), .inl (0, [some (some 1), some (some 20), some (some 33), some (some 35), some (some 37), some (some 39), none]), .inl (6, [some (some 34)]), .inr (0, 8), .inl (6, [some (some 36)]), .inr (0, 4), .inl (6, [some (some 38)]), .inr (0, 4), .inl (6, [some (some 40)]), .inr (0, 4), .inl (2, [some (some 1), some (some 20), some (some 31), some (some 32)]), .inl (1, [some (some 20), some (some 43), none, none]), .inl (6, [some (some 44)]), .inr (0, 1848), .inl (10, [some (some 46), none, none, none, none, none, none, none]), .inl (6, [some (some 47)]), .inr (0, 900), .inl (8, [some none, some none]), .inl (7, [none, none, none, none, none, none, none, some none, some none, some none, some none, some none, some none, some none, some none, some none])]
def gkB_X7_init_49 : ga_S := [.inl (11, [some (some 1), some (some 20), some (some 31), some (some 32), some (some 41), some (some 42), some (some 45), some none, some none, some none]), .inl (7, [none, none, none, none, none, none, none, some (some 2), some (some 4), some (some 6), some (some 8), some (some 10), some (some 12), some (some 14), some (some 16), some (some 18)]), .inl (6, [some (some 3)]), .inr (0, 6), .inl (6, [some (some 5)]), .inr (0, 8), .inl (6, [some (some 7)]), .inr (0, 8), .inl (6, [some (some 9)]), .inr (0, 6), .inl (6, [some (some 11)]), .inr (0, 40), .inl (6, [some (some 13)]), .inr (0, 40), .inl (6, [some (some 15)]), .inr (0, 40), .inl (6, [some (some 17)]), .inr (0, 40), .inl (6, [some (some 19)]), .inr (0, 40), .inl (3, [some (some 1), some (some 21), some (some 23), some (some 25), some (some 27), some (some 29)]), .inl (6, [some (some 22)]), .inr (0, 40), .inl (6, [some (some 24)]), .inr (0, 40), .inl (6, [some (some 26)]), .inr (0, 40), .inl (6, [some (some 28)]), .inr (0, 40), .inl (6, [some (some 30)]), .inr (0, 8), .inl (4, [some (some 1), some (some 20)]), .inl (0, [some (some 1), some (some 20), some (some 33), some (some 35), some (some 37), some (some 39), none]), .inl (6, [some (some 34)]), .inr (0, 8), .inl (6, [some (some 36)]), .inr (0, 4), .inl (6, [some (some 38)]), .inr (0, 4), .inl (6, [some (some 40)]), .inr (0, 4), .inl (2, [some (some 1), some (some 20), some (some 31), some (some 32)]), .inl (1, [some (some 20), some (some 43), none, none]), .inl (6, [some (some 44)]), .inr (0, 1848), .inl (10, [some (some 46), none, none, none, none, none, none, none]), .inl (6, [some (some 47)]), .inr (0, 900), .inl (8, [some none, some none]), .inl (7, [none, none, none, none, none, none, none, some (some 50), some (some 52), some (some 54), some (some 56), some (some 58), some (some 60), some (some 62), some (some 64), some (some 66)]), .inl (6, [some (some 51)]), .inr (0, 6), .inl (6, [some (some 53)]), .inr (0, 8), .inl (6, [some (some 55)]), .inr (0, 8), .inl (6, [some (some 57)]), .inr (0, 6), .inl (6, [some (some 59)]), .inr (0, 40), .inl (6, [some (some 61)]), .inr (0, 40), .inl (6, [some (some 63)]), .inr (0, 40), .inl (6, [some (some 65)]), .inr (0, 40), .inl (6, [some (some 67)]), .inr (0, 40)]
def gkA_X8_init_48 : ga_S := [.inl (11, [some (some 1), some (some 20), some (some 31), some (some 32), some (some 41), some (some 42), some (some 45), some none, some none, some none]), .inl (7, [none, none, none, none, none, none, none, some (some 2), some (some 4), some (some 6), some (some 8), some (some 10), some (some 12), some (some 14), some (some 16), some (some 18)]), .inl (6, [some (some 3)]), .inr (0, 6), .inl (6, [some (some 5)]), .inr (0, 8), .inl (6, [some (some 7)]), .inr (0, 8), .inl (6, [some (some 9)]), .inr (0, 6), .inl (6, [some (some 11)]), .inr (0, 40), .inl (6, [some (some 13)]), .inr (0, 40), .inl (6, [some (some 15)]), .inr (0, 40), .inl (6, [some (some 17)]), .inr (0, 40), .inl (6, [some (some 19)]), .inr (0, 40), .inl (3, [some (some 1), some (some 21), some (some 23), some (some 25), some (some 27), some (some 29)]), .inl (6, [some (some 22)]), .inr (0, 40), .inl (6, [some (some 24)]), .inr (0, 40), .inl (6, [some (some 26)]), .inr (0, 40), .inl (6, [some (some 28)]), .inr (0, 40), .inl (6, [some (some 30)]), .inr (0, 8), .inl (4, [some (some 1), some (some 20)]), .inl (0, [some (some 1), some (some 20), some (some 33), some (some 35), some (some 37), some (some 39), none]), .inl (6, [some (some 34)]), .inr (0, 8), .inl (6, [some (some 36)]), .inr (0, 4), .inl (6, [some (some 38)]), .inr (0, 4), .inl (6, [some (some 40)]), .inr (0, 4), .inl (2, [some (some 1), some (some 20), some (some 31), some (some 32)]), .inl (1, [some (some 20), some (some 43), none, none]), .inl (6, [some (some 44)]), .inr (0, 1848), .inl (10, [some (some 46), none, none, none, none, none, none, none]), .inl (6, [some (some 47)]), .inr (0, 900), .inl (8, [some none, some none])]
def gkB_X8_init_48 : ga_S := [.inl (11, [some (some 1), some (some 20), some (some 31), some (some 32), some (some 41), some (some 42), some (some 45), some none, some none, some none]), .inl (7, [none, none, none, none, none, none, none, some (some 2), some (some 4), some (some 6), some (some 8), some (some 10), some (some 12), some (some 14), some (some 16), some (some 18)]), .inl (6, [some (some 3)]), .inr (0, 6), .inl (6, [some (some 5)]), .inr (0, 8), .inl (6, [some (some 7)]), .inr (0, 8), .inl (6, [some (some 9)]), .inr (0, 6), .inl (6, [some (some 11)]), .inr (0, 40), .inl (6, [some (some 13)]), .inr (0, 40), .inl (6, [some (some 15)]), .inr (0, 40), .inl (6, [some (some 17)]), .inr (0, 40), .inl (6, [some (some 19)]), .inr (0, 40), .inl (3, [some (some 1), some (some 21), some (some 23), some (some 25), some (some 27), some (some 29)]), .inl (6, [some (some 22)]), .inr (0, 40), .inl (6, [some (some 24)]), .inr (0, 40), .inl (6, [some (some 26)]), .inr (0, 40), .inl (6, [some (some 28)]), .inr (0, 40), .inl (6, [some (some 30)]), .inr (0, 8), .inl (4, [some (some 1), some (some 20)]), .inl (0, [some (some 1), some (some 20), some (some 33), some (some 35), some (some 37), some (some 39), none]), .inl (6, [some (some 34)]), .inr (0, 8), .inl (6, [some (some 36)]), .inr (0, 4), .inl (6, [some (some 38)]), .inr (0, 4), .inl (6, [some (some 40)]), .inr (0, 4), .inl (2, [some (some 1), some (some 20), some (some 31), some (some 32)]), .inl (1, [some (some 20), some (some 43), none, none]), .inl (6, [some (some 44)]), .inr (0, 1848), .inl (10, [some (some 46), none, none, none, none, none, none, none]), .inl (6, [some (some 47)]), .inr (0, 900), .inl (8, [some (some 45), some (some 49)]), .inl (7, [none, none, none, none, none, none, none, some (some 50), some (some 52), some (some 54), some (some 56), some (some 58), some (some 60), some (some 62), some (some 64), some (some 66)]), .inl (6, [some (some 51)]), .inr (0, 6), .inl (6, [some (some 53)]), .inr (0, 8), .inl (6, [some (some 55)]), .inr (0, 8), .inl (6, [some (some 57)]), .inr (0, 6), .inl (6, [some (some 59)]), .inr (0, 40), .inl (6, [some (some 61)]), .inr (0, 40), .inl (6, [some (some 63)]), .inr (0, 40), .inl (6, [some (some 65)]), .inr (0, 40), .inl (6, [some (some 67)]), .inr (0, 40)]
def gkA_X9_init_68 : ga_S := [.inl (11, [some (some 1), some (some 20), some (some 31), some (some 32), some (some 41), some (some 42), some (some 45), some (some 48), some none, some none]), .inl (7, [none, none, none, none, none, none, none, some (some 2), some (some 4), some (some 6), some (some 8), some (some 10), some (some 12), some (some 14), some (some 16), some (some 18)]), .inl (6, [some (some 3)]), .inr (0, 6), .inl (6, [some (some 5)]), .inr (0, 8), .inl (6, [some (some 7)]), .inr (0, 8), .inl (6, [some (some 9)]), .inr (0, 6), .inl (6, [some (some 11)]), .inr (0, 40), .inl (6, [some (some 13)]), .inr (0, 40), .inl (6, [some (some 15)]), .inr (0, 40), .inl (6, [some (some 17)]), .inr (0, 40), .inl (6, [some (some 19)]), .inr (0, 40), .inl (3, [some (some 1), some (some 21), some (some 23), some (some 25), some (some 27), some (some 29)]), .inl (6, [some (some 22)]), .inr (0, 40), .inl (6, [some (some 24)]), .inr (0, 40), .inl (6, [some (some 26)]), .inr (0, 40), .inl (6, [some (some 28)]), .inr (0, 40), .inl (6, [some (some 30)]), .inr (0, 8), .inl (4, [some (some 1), some (some 20)]), .inl (0, [some (some 1), some (some 20), some (some 33), some (some 35), some (some 37), some (some 39), none]), .inl (6, [some (some 34)]), .inr (0, 8), .inl (6, [some (some 36)]), .inr (0, 4), .inl (6, [some (some 38)]), .inr (0, 4), .inl (6, [some (some 40)]), .inr (0, 4), .inl (2, [some (some 1), some (some 20), some (some 31), some (some 32)]), .inl (1, [some (some 20), some (some 43), none, none]), .inl (6, [some (some 44)]), .inr (0, 1848), .inl (10, [some (some 46), none, none, none, none, none, none, none]), .inl (6, [some (some 47)]), .inr (0, 900), .inl (8, [some (some 45), some (some 49)]), .inl (7, [none, none, none, none, none, none, none, some (some 50), some (some 52), some (some 54), some (some 56), some (some 58), some (some 60), some (some 62), some (some 64), some (some 66)]), .inl (6, [some (some 51)]), .inr (0, 6), .inl (6, [some (some 53)]), .inr (0, 8), .inl (6, [some (some 55)]), .inr (0, 8), .inl (6, [some (some 57)]), .inr (0, 6), .inl (6, [some (some 59)]), .inr (0, 40), .inl (6, [some (some 61)]), .inr (0, 40), .inl (6, [some (some 63)]), .inr (0, 40), .inl (6, [some (some 65)]), .inr (0, 40), .inl (6, [some (some 67)]), .inr (0, 40), .inl (9, [some none, none, none, none, none])]
def gkB_X9_init_68 : ga_S := [.inl (11, [some (some 1), some (some 20), some (some 31), some (some 32), some (some 41), some (some 42), some (some 45), some (some 48), some none, some none]), .inl (7, [none, none, none, none, none, none, none, some (some 2), some (some 4), some (some 6), some (some 8), some (some 10), some (some 12), some (some 14), some (some 16), some (some 18)]), .inl (6, [some (some 3)]), .inr (0, 6), .inl (6, [some (some 5)]), .inr (0, 8), .inl (6, [some (some 7)]), .inr (0, 8), .inl (6, [some (some 9)]), .inr (0, 6), .inl (6, [some (some 11)]), .inr (0, 40), .inl (6, [some (some 13)]), .inr (0, 40), .inl (6, [some (some 15)]), .inr (0, 40), .inl (6, [some (some 17)]), .inr (0, 40), .inl (6, [some (some 19)]), .inr (0, 40), .inl (3, [some (some 1), some (some 21), some (some 23), some (some 25), some (some 27), some (some 29)]), .inl (6, [some (some 22)]), .inr (0, 40), .inl (6, [some (some 24)]), .inr (0, 40), .inl (6, [some (some 26)]), .inr (0, 40), .inl (6, [some (some 28)]), .inr (0, 40), .inl (6, [some (some 30)]), .inr (0, 8), .inl (4, [some (some 1), some (some 20)]), .inl (0, [some (some 1), some (some 20), some (some 33), some (some 35), some (some 37), some (some 39), none]), .inl (6, [some (some 34)]), .inr (0, 8), .inl (6, [some (some 36)]), .inr (0, 4), .inl (6, [some (some 38)]), .inr (0, 4), .inl (6, [some (some 40)]), .inr (0, 4), .inl (2, [some (some 1), some (some 20), some (some 31), some (some 32)]), .inl (1, [some (some 20), some (some 43), none, none]), .inl (6, [some (some 44)]), .inr (0, 1848), .inl (10, [some (some 46), none, none, none, none, none, none, none]), .inl (6, [some (some 47)]), .inr (0, 900), .inl (8, [some (some 45), some (some 49)]), .inl (7, [none, none, none, none, none, none, none, some (some 50), some (some 52), some (some 54), some (some 56), some (some 58), some (some 60), some (some 62), some (some 64), some (some 66)]), .inl (6, [some (some 51)]), .inr (0, 6), .inl (6, [some (some 53)]), .inr (0, 8), .inl (6, [some (some 55)]), .inr (0, 8), .inl (6, [some (some 57)]), .inr (0, 6), .inl (6, [some (some 59)]), .inr (0, 40), .inl (6, [some (some 61)]), .inr (0, 40), .inl (6, [some (some 63)]), .inr (0, 40), .inl (6, [some (some 65)]), .inr (0, 40), .inl (6, [some (some 67)]), .inr (0, 40), .inl (9, [some (some 45), none, none, none, none])]
def gkA_X5_init_69 : ga_S := [.inl (11, [some (some 1), some (some 20), some (some 31), some (some 32), some (some 41), some (some 42), some (some 45), some (some 48), some (some 68), some none]), .inl (7, [none, none, none, none, none, none, none, some (some 2), some (some 4), some (some 6), some (some 8), some (some 10), some (some 12), some (some 14), some (some 16), some (some 18)]), .inl (6, [some (some 3)]), .inr (0, 6), .inl (6, [some (some 5)]), .inr (0, 8), .inl (6, [some (some 7)]), .inr (0, 8), .inl (6, [some (some 9)]), .inr (0, 6), .inl (6, [some (some 11)]), .inr (0, 40), .inl (6, [some (some 13)]), .inr (0, 40), .inl (6, [some (some 15)]), .inr (0, 40), .inl (6, [some (some 17)]), .inr (0, 40), .inl (6, [some (some 19)]), .inr (0, 40), .inl (3, [some (some 1), some (some 21), some (some 23), some (some 25), some (some 27), some (some 29)]), .inl (6, [some (some 22)]), .inr (0, 40), .inl (6, [some (some 24)]), .inr (0, 40), .inl (6, [some (some 26)]), .inr (0, 40), .inl (6, [some (some 28)]), .inr (0, 40), .inl (6, [some (some 30)]), .inr (0, 8), .inl (4, [some (some 1), some (some 20)]), .inl (0, [some (some 1), some (some 20), some (some 33), some (some 35), some (some 37), some (some 39), none]), .inl (6, [some (some 34)]), .inr (0, 8), .inl (6, [some (some 36)]), .inr (0, 4), .inl (6, [some (some 38)]), .inr (0, 4), .inl (6, [some (some 40)]), .inr (0, 4), .inl (2, [some (some 1), some (some 20), some (some 31), some (some 32)]), .inl (1, [some (some 20), some (some 43), none, none]), .inl (6, [some (some 44)]), .inr (0, 1848), .inl (10, [some (some 46), none, none, none, none, none, none, none]), .inl (6, [some (some 47)]), .inr (0, 900), .inl (8, [some (some 45), some (some 49)]), .inl (7, [none, none, none, none, none, none, none, some (some 50), some (some 52), some (some 54), some (some 56), some (some 58), some (some 60), some (some 62), some (some 64), some (some 66)]), .inl (6, [some (some 51)]), .inr (0, 6), .inl (6, [some (some 53)]), .inr (0, 8), .inl (6, [some (some 55)]), .inr (0, 8), .inl (6, [some (some 57)]), .inr (0, 6), .inl (6, [some (some 59)]), .inr (0, 40), .inl (6, [some (some 61)]), .inr (0, 40), .inl (6, [some (some 63)]), .inr (0, 40), .inl (6, [some (some 65)]), .inr (0, 40), .inl (6, [some (some 67)]), .inr (0, 40), .inl (9, [some (some 45), none, none, none, none]), .inl (5, [some none, some none, some none, none])]
def gkB_X5_init_69 : ga_S := [.inl (11, [some (some 1), some (some 20), some (some 31), some (some 32), some (some 41), some (some 42), some (some 45), some (some 48), some (some 68), some none]), .inl (7, [none, none, none, none, none, none, none, some (some 2), some (some 4), some (some 6), some (some 8), some (some 10), some (some 12), some (some 14), some (some 16), some (some 18)]), .inl (6, [some (some 3)]), .inr (0, 6), .inl (6, [some (some 5)]), .inr (0, 8), .inl (6, [some (some 7)]), .inr (0, 8), .inl (6, [some (some 9)]), .inr (0, 6), .inl (6, [some (some 11)]), .inr (0, 40), .inl (6, [some (some 13)]), .inr (0, 40), .inl (6, [some (some 15)]), .inr (0, 40), .inl (6, [some (some 17)]), .inr (0, 40), .inl (6, [some (some 19)]), .inr (0, 40), .inl (3, [some (some 1), some (some 21), some (some 23), some (some 25), some (some 27), some (some 29)]), .inl (6, [some (some 22)]), .inr (0, 40), .inl (6, [some (some 24)]), .inr (0, 40), .inl (6, [some (some 26)]), .inr (0, 40), .inl (6, [some (some 28)]), .inr (0, 40), .inl (6, [some (some 30)]), .inr (0, 8), .inl (4, [some (some 1), some (some 20)]), .inl (0, [some (some 1), some (some 20), some (some 33), some (some 35), some (some 37), some (some 39), none]), .inl (6, [some (some 34)]), .inr (0, 8), .inl (6, [some (some 36)]), .inr (0, 4), .inl (6, [some (some 38)]), .inr (0, 4), .inl (6, [some (some 40)]), .inr (0, 4), .inl (2, [some (some 1), some (some 20), some (some 31), some (some 32)]), .inl (1, [some (some 20), some (some 43), none, none]), .inl (6, [some (some 44)]), .inr (0, 1848), .inl (10, [some (some 46), none, none, none, none, none, none, none]), .inl (6, [some (some 47)]), .inr (0, 900), .inl (8, [some (some 45), some (some 49)]), .inl (7, [none, none, none, none, none, none, none, some (some 50), some (some 52), some (some 54), some (some 56), some (some 58), some (some 60), some (some 62), some (some 64), some (some 66)]), .inl (6, [some (some 51)]), .inr (0, 6), .inl (6, [some (some 53)]), .inr (0, 8), .inl (6, [some (some 55)]), .inr (0, 8), .inl (6, [some (some 57)]), .inr (0, 6), .inl (6, [some (some 59)]), .inr (0, 40), .inl (6, [some (some 61)]), .inr (0, 40), .inl (6, [some (some 63)]), .inr (0, 40), .inl (6, [some (some 65)]), .inr (0, 40), .inl (6, [some (some 67)]), .inr (0, 40), .inl (9, [some (some 45), none, none, none, none]), .inl (5, [some (some 1), some (some 20), some (some 70), none]), .inl (6, [some (some 71)]), .inr (0, 150)]
def gkA_X11_init_0 : ga_S := [.inl (11, [some none, some none, some none, some none, some none, some none, some none, some none, some none, some none])]
def gkB_X11_init_0 : ga_S := [.inl (11, [some (some 1), some (some 20), some (some 31), some (some 32), some (some 41), some (some 42), some (some 45), some (some 48), some (some 68), some (some 69)]), .inl (7, [none, none, none, none, none, none, none, some (some 2), some (some 4), some (some 6), some (some 8), some (some 10), some (some 12), some (some 14), some (some 16), some (some 18)]), .inl (6, [some (some 3)]), .inr (0, 6), .inl (6, [some (some 5)]), .inr (0, 8), .inl (6, [some (some 7)]), .inr (0, 8), .inl (6, [some (some 9)]), .inr (0, 6), .inl (6, [some (some 11)]), .inr (0, 40), .inl (6, [some (some 13)]), .inr (0, 40), .inl (6, [some (some 15)]), .inr (0, 40), .inl (6, [some (some 17)]), .inr (0, 40), .inl (6, [some (some 19)]), .inr (0, 40), .inl (3, [some (some 1), some (some 21), some (some 23), some (some 25), some (some 27), some (some 29)]), .inl (6, [some (some 22)]), .inr (0, 40), .inl (6, [some (some 24)]), .inr (0, 40), .inl (6, [some (some 26)]), .inr (0, 40), .inl (6, [some (some 28)]), .inr (0, 40), .inl (6, [some (some 30)]), .inr (0, 8), .inl (4, [some (some 1), some (some 20)]), .inl (0, [some (some 1), some (some 20), some (some 33), some (some 35), some (some 37), some (some 39), none]), .inl (6, [some (some 34)]), .inr (0, 8), .inl (6, [some (some 36)]), .inr (0, 4), .inl (6, [some (some 38)]), .inr (0, 4), .inl (6, [some (some 40)]), .inr (0, 4), .inl (2, [some (some 1), some (some 20), some (some 31), some (some 32)]), .inl (1, [some (some 20), some (some 43), none, none]), .inl (6, [some (some 44)]), .inr (0, 1848), .inl (10, [some (some 46), none, none, none, none, none, none, none]), .inl (6, [some (some 47)]), .inr (0, 900), .inl (8, [some (some 45), some (some 49)]), .inl (7, [none, none, none, none, none, none, none, some (some 50), some (some 52), some (some 54), some (some 56), some (some 58), some (some 60), some (some 62), some (some 64), some (some 66)]), .inl (6, [some (some 51)]), .inr (0, 6), .inl (6, [some (some 53)]), .inr (0, 8), .inl (6, [some (some 55)]), .inr (0, 8), .inl (6, [some (some 57)]), .inr (0, 6), .inl (6, [some (some 59)]), .inr (0, 40), .inl (6, [some (some 61)]), .inr (0, 40), .inl (6, [some (some 63)]), .inr (0, 40), .inl (6, [some (some 65)]), .inr (0, 40), .inl (6, [some (some 67)]), .inr (0, 40), .inl (9, [some (some 45), none, none, none, none]), .inl (5, [some (some 1), some (some 20), some (some 70), none]), .inl (6, [some (some 71)]), .inr (0, 150)]
def gkA_X12_init_72 : ga_S := [.inl (11, [some (some 1), some (some 20), some (some 31), some (some 32), some (some 41), some (some 42), some (some 45), some (some 48), some (some 68), some (some 69)]), .inl (7, [none, none, none, none, none, none, none, some (some 2), some (some 4), some (some 6), some (some 8), some (some 10), some (some 12), some (some 14), some (some 16), some (some 18)]), .inl (6, [some (some 3)]), .inr (0, 6), .inl (6, [some (some 5)]), .inr (0, 8), .inl (6, [some (some 7)]), .inr (0, 8), .inl (6, [some (some 9)]), .inr (0, 6), .inl (6, [some (some 11)]), .inr (0, 40), .inl (6, [some (some 13)]), .inr (0, 40), .inl (6, [some (some 15)]), .inr (0, 40), .inl (6, [some (some 17)]), .inr (0, 40), .inl (6, [some (some 19)]), .inr (0, 40), .inl (3, [some (some 1), some (some 21), some (some 23), some (some 25), some (some 27), some (some 29)]), .inl (6, [some (some 22)]), .inr (0, 40), .inl (6, [some (some 24)]), .inr (0, 40), .inl (6, [some (some 26)]), .inr (0, 40), .inl (6, [some (some 28)]), .inr (0, 40), .inl (6, [some (some 30)]), .inr (0, 8), .inl (4, [some (some 1), some (some 20)]), .inl (0, [some (some 1), some (some 20), some (some 33), some (some 35), some (some 37), some (some 39), none]), .inl (6, [some (some 34)]), .inr (0, 8), .inl (6, [some (some 36)]), .inr (0, 4), .inl (6, [some (some 38)]), .inr (0, 4), .inl (6, [some (some 40)]), .inr (0, 4), .inl (2, [some (some 1), some (some 20), some (some 31), some (some 32)]), .inl (1, [some (some 20), some (some 43), none, none]), .inl (6, [some (some 44)]), .inr (0, 1848), .inl (10, [some (some 46), none, none, none, none, none, none, none]), .inl (6, [some (some 47)]), .inr (0, 900), .inl (8, [some (some 45), some (some 49)]), .inl (7, [none, none, none, none, none, none, none, some (some 50), some (some 52), some (some 54), some (some 56), some (some 58), some (some 60), some (some 62), some (some 64), some (some 66)]), .inl (6, [some (some 51)]), .inr (0, 6), .inl (6, [some (some 53)]), .inr (0, 8), .inl (6, [some (some 55)]), .inr (0, 8), .inl (6, [some (some 57)]), .inr (0, 6), .inl (6, [some (some 59)]), .inr (0, 40), .inl (6, [some (some 61)]), .inr (0, 40), .inl (6, [some (some 63)]), .inr (0, 40), .inl (6, [some (some 65)]), .inr (0, 40), .inl (6, [some (some 67)]), .inr (0, 40), .inl (9, [some (some 45), none, none, none, none]), .inl (5, [some (some 1), some (some 20), some (some 70), none]), .inl (6, [some (some 71)]), .inr (0, 150), .inl (12, [some none, some none, some none, some none, some none, none, none, some none, some none, none, none, some none, none, none, none, none, none, none, some none, none])]
def gkB_X12_init_72 : ga_S := [.inl (11, [some (some 1), some (some 20), some (some 31), some (some 32), some (some 41), some (some 42), some (some 45), some (some 48), some (some 68), some (some 69)]), .inl (7, [none, none, none, none, none, none, none, some (some 2), some (some 4), some (some 6), some (some 8), some (some 10), some (some 12), some (some 14), some (some 16), some (some 18)]), .inl (6, [some (some 3)]), .inr (0, 6), .inl (6, [some (some 5)]), .inr (0, 8), .inl (6, [some (some 7)]), .inr (0, 8), .inl (6, [some (some 9)]), .inr (0, 6), .inl (6, [some (some 11)]), .inr (0, 40), .inl (6, [some (some 13)]), .inr (0, 40), .inl (6, [some (some 15)]), .inr (0, 40), .inl (6, [some (some 17)]), .inr (0, 40), .inl (6, [some (some 19)]), .inr (0, 40), .inl (3, [some (some 1), some (some 21), some (some 23), some (some 25), some (some 27), some (some 29)]), .inl (6, [some (some 22)]), .inr (0, 40), .inl (6, [some (some 24)]), .inr (0, 40), .inl (6, [some (some 26)]), .inr (0, 40), .inl (6, [some (some 28)]), .inr (0, 40), .inl (6, [some (some 30)]), .inr (0, 8), .inl (4, [some (some 1), some (some 20)]), .inl (0, [some (some 1), some (some 20), some (some 33), some (some 35), some (some 37), some (some 39), none]), .inl (6, [some (some 34)]), .inr (0, 8), .inl (6, [some (some 36)]), .inr (0, 4), .inl (6, [some (some 38)]), .inr (0, 4), .inl (6, [some (some 40)]), .inr (0, 4), .inl (2, [some (some 1), some (some 20), some (some 31), some (some 32)]), .inl (1, [some (some 20), some (some 43), none, none]), .inl (6, [some (some 44)]), .inr (0, 1848), .inl (10, [some (some 46), none, none, none, none, none, none, none]), .inl (6, [some (some 47)]), .inr (0, 900), .inl (8, [some (some 45), some (some 49)]), .inl (7, [none, none, none, none, none, none, none, some (some 50), some (some 52), some (some 54), some (some 56), some (some 58), some (some 60), some (some 62), some (some 64), some (some 66)]), .inl (6, [some (some 51)]), .inr (0, 6), .inl (6, [some (some 53)]), .inr (0, 8), .inl (6, [some (some 55)]), .inr (0, 8), .inl (6, [some (some 57)]), .inr (0, 6), .inl (6, [some (some 59)]), .inr (0, 40), .inl (6, [some (some 61)]), .inr (0, 40), .inl (6, [some (some 63)]), .inr (0, 40), .inl (6, [some (some 65)]), .inr (0, 40), .inl (6, [some (some 67)]), .inr (0, 40), .inl (9, [some (some 45), none, none, none, none]), .inl (5, [some (some 1), some (some 20), some (some 70), none]), .inl (6, [some (some 71)]), .inr (0, 150), .inl (12, [some (some 73), some (some 74), some (some 75), some (some 76), some (some 77), none, none, some (some 78), some (some 79), none, none, some (some 80), none, none, none, none, none, none, some (some 81), none]), .inr (0, 235), .inr (0, 235), .inr (0, 168), .inr (0, 168), .inr (0, 1680), .inr (0, 4), .inr (0, 4), .inr (1, 900), .inr (1, 240)]
def zb_X7_init_1 (s : ga_M) : ga_M := (ga_z (ga_z (ga_z (ga_z (ga_z (ga_z (ga_z (ga_z (ga_z (ga_z (ga_z (ga_z (ga_z (ga_z (ga_z (ga_z (ga_z (ga_z s 2) 3) 4) 5) 6) 7) 8) 9) 10) 11) 12) 13) 14) 15) 16) 17) 18) 19)
theorem zx_X7_init_1 : ∃ f, f = zb_X7_init_1 := ⟨_, rfl⟩
def zk_X7_init_1 : ga_M → ga_M := Classical.choose zx_X7_init_1
theorem ze_X7_init_1 : zk_X7_init_1 = zb_X7_init_1 := Classical.choose_spec zx_X7_init_1
def zb_X3_init_20 (s : ga_M) : ga_M := (ga_z (ga_z (ga_z (ga_z (ga_z (ga_z (ga_z (ga_z (ga_z (ga_z s 21) 22) 23) 24) 25) 26) 27) 28) 29) 30)
theorem zx_X3_init_20 : ∃ f, f = zb_X3_init_20 := ⟨_, rfl⟩
def zk_X3_init_20 : ga_M → ga_M := Classical.choose zx_X3_init_20
theorem ze_X3_init_20 : zk_X3_init_20 = zb_X3_init_20 := Classical.choose_spec zx_X3_init_20
def zb_X4_init_31 (s : ga_M) : ga_M := s
theorem zx_X4_init_31 : ∃ f, f = zb_X4_init_31 := ⟨_, rfl⟩
def zk_X4_init_31 : ga_M → ga_M := Classical.choose zx_X4_init_31
theorem ze_X4_init_31 : zk_X4_init_31 = zb_X4_init_31 := Classical.choose_spec zx_X4_init_31
def zb_X0_init_32 (s : ga_M) : ga_M := (ga_z (ga_z (ga_z (ga_z (ga_z (ga_z (ga_z (ga_z s 33) 34) 35) 36) 37) 38) 39) 40)
theorem zx_X0_init_32 : ∃ f, f = zb_X0_init_32 := ⟨_, rfl⟩
def zk_X0_init_32 : ga_M → ga_M := Classical.choose zx_X0_init_32
theorem ze_X0_init_32 : zk_X0_init_32 = zb_X0_init_32 := Classical.choose_spec zx_X0_init_32
def zb_X2_init_41 (s : ga_M) : ga_M := s
theorem zx_X2_init_41 : ∃ f, f = zb_X2_init_41 := ⟨_, rfl⟩
def zk_X2_init_41 : ga_M → ga_M := Classical.choose zx_X2_init_41
theorem ze_X2_init_41 : zk_X2_init_41 = zb_X2_init_41 := Classical.choose_spec zx_X2_init_41
def zb_X1_init_42 (s : ga_M) : ga_M := (ga_z (ga_z s 43) 44)
theorem zx_X1_init_42 : ∃ f, f = zb_X1_init_42 := ⟨_, rfl⟩
def zk_X1_init_42 : ga_M → ga_M := Classical.choose zx_X1_init_42
theorem ze_X1_init_42 : zk_X1_init_42 = zb_X1_init_42 := Classical.choose_spec zx_X1_init_42
def zb_X10_init_45 (s : ga_M) : ga_M := (ga_up (ga_z (ga_z s 46) 47) 45 7 (-1))
theorem zx_X10_init_45 : ∃ f, f = zb_X10_init_45 := ⟨_, rfl⟩
def zk_X10_init_45 : ga_M → ga_M := Classical.choose zx_X10_init_45
theorem ze_X10_init_45 : zk_X10_init_45 = zb_X10_init_45 := Classical.choose_spec zx_X10_init_45
def zb_X7_init_49 (s : ga_M) : ga_M := (ga_z (ga_z (ga_z (ga_z (ga_z (ga_z (ga_z (ga_z (ga_z (ga_z (ga_z (ga_z (ga_z (ga_z (ga_z (ga_z (ga_z (ga_z s 50) 51) 52) 53) 54) 55) 56) 57) 58) 59) 60) 61) 62) 63) 64) 65) 66) 67)
theorem zx_X7_init_49 : ∃ f, f = zb_X7_init_49 := ⟨_, rfl⟩
def zk_X7_init_49 : ga_M → ga_M := Classical.choose zx_X7_init_49
theorem ze_X7_init_49 : zk_X7_init_49 = zb_X7_init_49 := Classical.choose_spec zx_X7_init_49
def zb_X8_init_48 (s : ga_M) : ga_M := (zk_X7_init_49 (ga_z s 49))
theorem zx_X8_init_48 : ∃ f, f = zb_X8_init_48 := ⟨_, rfl⟩
def zk_X8_init_48 : ga_M → ga_M := Classical.choose zx_X8_init_48
theorem ze_X8_init_48 : zk_X8_init_48 = zb_X8_init_48 := Classical.choose_spec zx_X8_init_48
def zb_X9_init_68 (s : ga_M) : ga_M := s
theorem zx_X9_init_68 : ∃ f, f = zb_X9_init_68 := ⟨_, rfl⟩
def zk_X9_init_68 : ga_M → ga_M := Classical.choose zx_X9_init_68
theorem ze_X9_init_68 : zk_X9_init_68 = zb_X9_init_68 := Classical.choose_spec zx_X9_init_68
def zb_X5_init_69 (s : ga_M) : ga_M := (ga_z (ga_z s 70) 71)
theorem zx_X5_init_69 : ∃ f, f = zb_X5_init_69 := ⟨_, rfl⟩
def zk_X5_init_69 : ga_M → ga_M := Classical.choose zx_X5_init_69
theorem ze_X5_init_69 : zk_X5_init_69 = zb_X5_init_69 := Classical.choose_spec zx_X5_init_69
def zb_X11_init_0 (s : ga_M) : Option (ga_S × ga_M) :=
  (f_X3_begin (zk_X3_init_20 (ga_z (v_X7_becomeSample (zk_X7_init_1 (ga_z s 1))) 20))).bind fun s1 =>
  some (gkB_X11_init_0, (zk_X5_init_69 (ga_z (zk_X9_init_68 (ga_z (zk_X8_init_48 (ga_z (zk_X10_init_45 (ga_z (zk_X1_init_42 (ga_z (zk_X2_init_41 (ga_z (zk_X0_init_32 (ga_z (zk_X4_init_31 (ga_z s1 31)) 32)) 41)) 42)) 45)) 48)) 68)) 69)))
theorem zx_X11_init_0 : ∃ f, f = zb_X11_init_0 := ⟨_, rfl⟩
def zk_X11_init_0 : ga_M → Option (ga_S × ga_M) := Classical.choose zx_X11_init_0
theorem ze_X11_init_0 : zk_X11_init_0 = zb_X11_init_0 := Classical.choose_spec zx_X11_init_0
def zb_X12_init_72 (s : ga_M) : Option (ga_S × ga_M) :=
  (f_X12_beginAnew (ga_up (ga_up (ga_up (ga_up (ga_up (ga_up (ga_up (ga_up (ga_up (ga_up (ga_up (ga_z (ga_up (ga_z (ga_z (ga_z (ga_z (ga_z (ga_z (ga_z (ga_z s 73) 74) 75) 76) 77) 78) 79) 80) 72 17 (-1)) 81) 73 0 1) 73 1 2) 73 2 1) 73 3 2) 73 4 1) 73 5 1) 73 6 1) 73 13 2) 73 14 2) 73 21 1) 73 22 1)).bind fun s1 =>
  some (gkB_X12_init_72, s1)
theorem zx_X12_init_72 : ∃ f, f = zb_X12_init_72 := ⟨_, rfl⟩
def zk_X12_init_72 : ga_M → Option (ga_S × ga_M) := Classical.choose zx_X12_init_72
theorem ze_X12_init_72 : zk_X12_init_72 = zb_X12_init_72 := Classical.choose_spec zx_X12_init_72
def f_L_law_h (xs : Nat → Int32) (LN : Nat) : Nat → Int32 → ga_M → Option (Int32 × ga_M)
  | 0, _, _ => none
  | n + 1, i, s =>
    if ((Int32.ofNat LN) - 6) < i then
      some (1, s)
    else
    if i < 0 ∨ LN ≤ i.toNatClampNeg then
      none
    else
    if ((xs i.toNatClampNeg) &&& 63) = 0 then
      if (i + 1) < 0 ∨ LN ≤ (i + 1).toNatClampNeg then
        none
      else
      if (i + 2) < 0 ∨ LN ≤ (i + 2).toNatClampNeg then
        none
      else
      if (i + 3) < 0 ∨ LN ≤ (i + 3).toNatClampNeg then
        none
      else
      if (i + 4) < 0 ∨ LN ≤ (i + 4).toNatClampNeg then
        none
      else
      if (i + 5) < 0 ∨ LN ≤ (i + 5).toNatClampNeg then
        none
      else
        (f_L_appendText_0_82 (xs (i + 1).toNatClampNeg) (xs (i + 2).toNatClampNeg) (xs (i + 3).toNatClampNeg) (xs (i + 4).toNatClampNeg) (xs (i + 5).toNatClampNeg) s).bind fun q302 =>
        Sum.elim (fun x304 =>
          if (i + 1) < 0 ∨ LN ≤ (i + 1).toNatClampNeg then
            none
          else
          if (i + 2) < 0 ∨ LN ≤ (i + 2).toNatClampNeg then
            none
          else
          if (i + 3) < 0 ∨ LN ≤ (i + 3).toNatClampNeg then
            none
          else
          if (i + 4) < 0 ∨ LN ≤ (i + 4).toNatClampNeg then
            none
          else
          if (i + 5) < 0 ∨ LN ≤ (i + 5).toNatClampNeg then
            none
          else
            (f_X12_appendText (xs (i + 1).toNatClampNeg) (xs (i + 2).toNatClampNeg) (xs (i + 3).toNatClampNeg) (xs (i + 4).toNatClampNeg) (xs (i + 5).toNatClampNeg) q302.2).bind fun q305 =>
            let v306 : Int32 := q305.1
            if (v_X12_thrown q305.2) = x304 then
              if x304 = 0 then
                if (lg_cmp (q305.2 82 0).toInt64 ((v306 : Int32).toInt64)) = 0 then
                  let v308 : Int32 := i + 6
                  f_L_law_h xs LN n v308 q305.2
                else
                  some (0, q305.2)
              else
                let v307 : Int32 := i + 6
                f_L_law_h xs LN n v307 q305.2
            else
              some (0, q305.2)
        ) (fun e303 =>
          none
        ) q302.1
    else
    if ((xs i.toNatClampNeg) &&& 63) = 1 then
      if (i + 1) < 0 ∨ LN ≤ (i + 1).toNatClampNeg then
        none
      else
        (f_L_truncateText_0_82 (xs (i + 1).toNatClampNeg) s).bind fun q295 =>
        Sum.elim (fun x297 =>
          if (i + 1) < 0 ∨ LN ≤ (i + 1).toNatClampNeg then
            none
          else
            let q298 : Int32 × ga_M := v_X12_truncateText (xs (i + 1).toNatClampNeg) q295.2
            let v299 : Int32 := q298.1
            if (v_X12_thrown q298.2) = x297 then
              if x297 = 0 then
                if (lg_cmp (q298.2 82 0).toInt64 ((v299 : Int32).toInt64)) = 0 then
                  let v301 : Int32 := i + 6
                  f_L_law_h xs LN n v301 q298.2
                else
                  some (0, q298.2)
              else
                let v300 : Int32 := i + 6
                f_L_law_h xs LN n v300 q298.2
            else
              some (0, q298.2)
        ) (fun e296 =>
          none
        ) q295.1
    else
    if ((xs i.toNatClampNeg) &&& 63) = 2 then
      (f_X11_parseSchool s).bind fun q292 =>
      (f_X12_parseSchool q292.2).bind fun q293 =>
      if q292.1 = q293.1 then
        let v294 : Int32 := i + 6
        f_L_law_h xs LN n v294 q293.2
      else
        some (0, q293.2)
    else
    if ((xs i.toNatClampNeg) &&& 63) = 3 then
      (f_X11_runScript s).bind fun q289 =>
      (f_X12_runScript q289.2).bind fun q290 =>
      if q289.1 = q290.1 then
        let v291 : Int32 := i + 6
        f_L_law_h xs LN n v291 q290.2
      else
        some (0, q290.2)
    else
    if ((xs i.toNatClampNeg) &&& 63) = 4 then
      let q287 : Int32 × ga_M := v_X12_errorCode s
      if (v_X11_errorCode s) = q287.1 then
        let v288 : Int32 := i + 6
        f_L_law_h xs LN n v288 q287.2
      else
        some (0, q287.2)
    else
    if ((xs i.toNatClampNeg) &&& 63) = 5 then
      let q285 : Int32 × ga_M := v_X12_errorPosition s
      if (v_X11_errorPosition s) = q285.1 then
        let v286 : Int32 := i + 6
        f_L_law_h xs LN n v286 q285.2
      else
        some (0, q285.2)
    else
    if ((xs i.toNatClampNeg) &&& 63) = 6 then
      if (i + 1) < 0 ∨ LN ≤ (i + 1).toNatClampNeg then
        none
      else
      if (i + 2) < 0 ∨ LN ≤ (i + 2).toNatClampNeg then
        none
      else
      if (i + 3) < 0 ∨ LN ≤ (i + 3).toNatClampNeg then
        none
      else
      if (xs (i + 3).toNatClampNeg) = 0 then
        (f_L_setAbsent_0_82 (xs (i + 1).toNatClampNeg) (xs (i + 2).toNatClampNeg) 0 s).bind fun q263 =>
        Sum.elim (fun x265 =>
          if (i + 1) < 0 ∨ LN ≤ (i + 1).toNatClampNeg then
            none
          else
          if (i + 2) < 0 ∨ LN ≤ (i + 2).toNatClampNeg then
            none
          else
          if (i + 3) < 0 ∨ LN ≤ (i + 3).toNatClampNeg then
            none
          else
          if (xs (i + 3).toNatClampNeg) = 0 then
            (f_X12_setAbsent (xs (i + 1).toNatClampNeg) (xs (i + 2).toNatClampNeg) 0 q263.2).bind fun q266 =>
            let v267 : Int32 := q266.1
            if (v_X12_thrown q266.2) = x265 then
              if x265 = 0 then
                if (lg_cmp (q266.2 82 0).toInt64 ((v267 : Int32).toInt64)) = 0 then
                  let v269 : Int32 := i + 6
                  f_L_law_h xs LN n v269 q266.2
                else
                  some (0, q266.2)
              else
                let v268 : Int32 := i + 6
                f_L_law_h xs LN n v268 q266.2
            else
              some (0, q266.2)
          else
            (f_X12_setAbsent (xs (i + 1).toNatClampNeg) (xs (i + 2).toNatClampNeg) 1 q263.2).bind fun q270 =>
            let v271 : Int32 := q270.1
            if (v_X12_thrown q270.2) = x265 then
              if x265 = 0 then
                if (lg_cmp (q270.2 82 0).toInt64 ((v271 : Int32).toInt64)) = 0 then
                  let v273 : Int32 := i + 6
                  f_L_law_h xs LN n v273 q270.2
                else
                  some (0, q270.2)
              else
                let v272 : Int32 := i + 6
                f_L_law_h xs LN n v272 q270.2
            else
              some (0, q270.2)
        ) (fun e264 =>
          none
        ) q263.1
      else
        (f_L_setAbsent_0_82 (xs (i + 1).toNatClampNeg) (xs (i + 2).toNatClampNeg) 1 s).bind fun q274 =>
        Sum.elim (fun x276 =>
          if (i + 1) < 0 ∨ LN ≤ (i + 1).toNatClampNeg then
            none
          else
          if (i + 2) < 0 ∨ LN ≤ (i + 2).toNatClampNeg then
            none
          else
          if (i + 3) < 0 ∨ LN ≤ (i + 3).toNatClampNeg then
            none
          else
          if (xs (i + 3).toNatClampNeg) = 0 then
            (f_X12_setAbsent (xs (i + 1).toNatClampNeg) (xs (i + 2).toNatClampNeg) 0 q274.2).bind fun q277 =>
            let v278 : Int32 := q277.1
            if (v_X12_thrown q277.2) = x276 then
              if x276 = 0 then
                if (lg_cmp (q277.2 82 0).toInt64 ((v278 : Int32).toInt64)) = 0 then
                  let v280 : Int32 := i + 6
                  f_L_law_h xs LN n v280 q277.2
                else
                  some (0, q277.2)
              else
                let v279 : Int32 := i + 6
                f_L_law_h xs LN n v279 q277.2
            else
              some (0, q277.2)
          else
            (f_X12_setAbsent (xs (i + 1).toNatClampNeg) (xs (i + 2).toNatClampNeg) 1 q274.2).bind fun q281 =>
            let v282 : Int32 := q281.1
            if (v_X12_thrown q281.2) = x276 then
              if x276 = 0 then
                if (lg_cmp (q281.2 82 0).toInt64 ((v282 : Int32).toInt64)) = 0 then
                  let v284 : Int32 := i + 6
                  f_L_law_h xs LN n v284 q281.2
                else
                  some (0, q281.2)
              else
                let v283 : Int32 := i + 6
                f_L_law_h xs LN n v283 q281.2
            else
              some (0, q281.2)
        ) (fun e275 =>
          none
        ) q274.1
    else
    if ((xs i.toNatClampNeg) &&& 63) = 7 then
      if (i + 1) < 0 ∨ LN ≤ (i + 1).toNatClampNeg then
        none
      else
      if (i + 2) < 0 ∨ LN ≤ (i + 2).toNatClampNeg then
        none
      else
        (f_L_cover_0_82 (xs (i + 1).toNatClampNeg) (xs (i + 2).toNatClampNeg) s).bind fun q256 =>
        Sum.elim (fun x258 =>
          if (i + 1) < 0 ∨ LN ≤ (i + 1).toNatClampNeg then
            none
          else
          if (i + 2) < 0 ∨ LN ≤ (i + 2).toNatClampNeg then
            none
          else
            (f_X12_cover (xs (i + 1).toNatClampNeg) (xs (i + 2).toNatClampNeg) q256.2).bind fun q259 =>
            let v260 : Int32 := q259.1
            if (v_X12_thrown q259.2) = x258 then
              if x258 = 0 then
                if (lg_cmp (q259.2 82 0).toInt64 ((v260 : Int32).toInt64)) = 0 then
                  let v262 : Int32 := i + 6
                  f_L_law_h xs LN n v262 q259.2
                else
                  some (0, q259.2)
              else
                let v261 : Int32 := i + 6
                f_L_law_h xs LN n v261 q259.2
            else
              some (0, q259.2)
        ) (fun e257 =>
          none
        ) q256.1
    else
    if ((xs i.toNatClampNeg) &&& 63) = 8 then
      if (i + 1) < 0 ∨ LN ≤ (i + 1).toNatClampNeg then
        none
      else
      if (i + 2) < 0 ∨ LN ≤ (i + 2).toNatClampNeg then
        none
      else
        (f_L_supervise_0_82 (xs (i + 1).toNatClampNeg) (xs (i + 2).toNatClampNeg) s).bind fun q249 =>
        Sum.elim (fun x251 =>
          if (i + 1) < 0 ∨ LN ≤ (i + 1).toNatClampNeg then
            none
          else
          if (i + 2) < 0 ∨ LN ≤ (i + 2).toNatClampNeg then
            none
          else
            (f_X12_supervise (xs (i + 1).toNatClampNeg) (xs (i + 2).toNatClampNeg) q249.2).bind fun q252 =>
            let v253 : Int32 := q252.1
            if (v_X12_thrown q252.2) = x251 then
              if x251 = 0 then
                if (lg_cmp (q252.2 82 0).toInt64 ((v253 : Int32).toInt64)) = 0 then
                  let v255 : Int32 := i + 6
                  f_L_law_h xs LN n v255 q252.2
                else
                  some (0, q252.2)
              else
                let v254 : Int32 := i + 6
                f_L_law_h xs LN n v254 q252.2
            else
              some (0, q252.2)
        ) (fun e250 =>
          none
        ) q249.1
    else
    if ((xs i.toNatClampNeg) &&& 63) = 9 then
      if (i + 1) < 0 ∨ LN ≤ (i + 1).toNatClampNeg then
        none
      else
        (f_L_repair_0_82 (xs (i + 1).toNatClampNeg) s).bind fun q242 =>
        Sum.elim (fun x244 =>
          if (i + 1) < 0 ∨ LN ≤ (i + 1).toNatClampNeg then
            none
          else
            (f_X12_repair (xs (i + 1).toNatClampNeg) q242.2).bind fun q245 =>
            let v246 : Int32 := q245.1
            if (v_X12_thrown q245.2) = x244 then
              if x244 = 0 then
                if (lg_cmp (q245.2 82 0).toInt64 ((v246 : Int32).toInt64)) = 0 then
                  let v248 : Int32 := i + 6
                  f_L_law_h xs LN n v248 q245.2
                else
                  some (0, q245.2)
              else
                let v247 : Int32 := i + 6
                f_L_law_h xs LN n v247 q245.2
            else
              some (0, q245.2)
        ) (fun e243 =>
          none
        ) q242.1
    else
    if ((xs i.toNatClampNeg) &&& 63) = 10 then
      (f_X11_repairAll s).bind fun q239 =>
      (f_X12_repairAll q239.2).bind fun q240 =>
      if q239.1 = q240.1 then
        let v241 : Int32 := i + 6
        f_L_law_h xs LN n v241 q240.2
      else
        some (0, q240.2)
    else
    if ((xs i.toNatClampNeg) &&& 63) = 11 then
      if (i + 1) < 0 ∨ LN ≤ (i + 1).toNatClampNeg then
        none
      else
      if (i + 2) < 0 ∨ LN ≤ (i + 2).toNatClampNeg then
        none
      else
        (f_L_exchange_0_82 (xs (i + 1).toNatClampNeg) (xs (i + 2).toNatClampNeg) s).bind fun q232 =>
        Sum.elim (fun x234 =>
          if (i + 1) < 0 ∨ LN ≤ (i + 1).toNatClampNeg then
            none
          else
          if (i + 2) < 0 ∨ LN ≤ (i + 2).toNatClampNeg then
            none
          else
            (f_X12_exchange (xs (i + 1).toNatClampNeg) (xs (i + 2).toNatClampNeg) q232.2).bind fun q235 =>
            let v236 : Int32 := q235.1
            if (v_X12_thrown q235.2) = x234 then
              if x234 = 0 then
                if (lg_cmp (q235.2 82 0).toInt64 ((v236 : Int32).toInt64)) = 0 then
                  let v238 : Int32 := i + 6
                  f_L_law_h xs LN n v238 q235.2
                else
                  some (0, q235.2)
              else
                let v237 : Int32 := i + 6
                f_L_law_h xs LN n v237 q235.2
            else
              some (0, q235.2)
        ) (fun e233 =>
          none
        ) q232.1
    else
    if ((xs i.toNatClampNeg) &&& 63) = 12 then
      if (i + 1) < 0 ∨ LN ≤ (i + 1).toNatClampNeg then
        none
      else
      if (i + 2) < 0 ∨ LN ≤ (i + 2).toNatClampNeg then
        none
      else
        (f_L_move_0_82 (xs (i + 1).toNatClampNeg) (xs (i + 2).toNatClampNeg) s).bind fun q225 =>
        Sum.elim (fun x227 =>
          if (i + 1) < 0 ∨ LN ≤ (i + 1).toNatClampNeg then
            none
          else
          if (i + 2) < 0 ∨ LN ≤ (i + 2).toNatClampNeg then
            none
          else
            (f_X12_move (xs (i + 1).toNatClampNeg) (xs (i + 2).toNatClampNeg) q225.2).bind fun q228 =>
            let v229 : Int32 := q228.1
            if (v_X12_thrown q228.2) = x227 then
              if x227 = 0 then
                if (lg_cmp (q228.2 82 0).toInt64 ((v229 : Int32).toInt64)) = 0 then
                  let v231 : Int32 := i + 6
                  f_L_law_h xs LN n v231 q228.2
                else
                  some (0, q228.2)
              else
                let v230 : Int32 := i + 6
                f_L_law_h xs LN n v230 q228.2
            else
              some (0, q228.2)
        ) (fun e226 =>
          none
        ) q225.1
    else
    if ((xs i.toNatClampNeg) &&& 63) = 13 then
      if (i + 1) < 0 ∨ LN ≤ (i + 1).toNatClampNeg then
        none
      else
      if (i + 2) < 0 ∨ LN ≤ (i + 2).toNatClampNeg then
        none
      else
        (f_L_setRoom_0_82 (xs (i + 1).toNatClampNeg) (xs (i + 2).toNatClampNeg) s).bind fun q218 =>
        Sum.elim (fun x220 =>
          if (i + 1) < 0 ∨ LN ≤ (i + 1).toNatClampNeg then
            none
          else
          if (i + 2) < 0 ∨ LN ≤ (i + 2).toNatClampNeg then
            none
          else
            (f_X12_setRoom (xs (i + 1).toNatClampNeg) (xs (i + 2).toNatClampNeg) q218.2).bind fun q221 =>
            let v222 : Int32 := q221.1
            if (v_X12_thrown q221.2) = x220 then
              if x220 = 0 then
                if (lg_cmp (q221.2 82 0).toInt64 ((v222 : Int32).toInt64)) = 0 then
                  let v224 : Int32 := i + 6
                  f_L_law_h xs LN n v224 q221.2
                else
                  some (0, q221.2)
              else
                let v223 : Int32 := i + 6
                f_L_law_h xs LN n v223 q221.2
            else
              some (0, q221.2)
        ) (fun e219 =>
          none
        ) q218.1
    else
    if ((xs i.toNatClampNeg) &&& 63) = 14 then
      if (i + 1) < 0 ∨ LN ≤ (i + 1).toNatClampNeg then
        none
      else
        (f_L_reopen_0_82 (xs (i + 1).toNatClampNeg) s).bind fun q211 =>
        Sum.elim (fun x213 =>
          if (i + 1) < 0 ∨ LN ≤ (i + 1).toNatClampNeg then
            none
          else
            (f_X12_reopen (xs (i + 1).toNatClampNeg) q211.2).bind fun q214 =>
            let v215 : Int32 := q214.1
            if (v_X12_thrown q214.2) = x213 then
              if x213 = 0 then
                if (lg_cmp (q214.2 82 0).toInt64 ((v215 : Int32).toInt64)) = 0 then
                  let v217 : Int32 := i + 6
                  f_L_law_h xs LN n v217 q214.2
                else
                  some (0, q214.2)
              else
                let v216 : Int32 := i + 6
                f_L_law_h xs LN n v216 q214.2
            else
              some (0, q214.2)
        ) (fun e212 =>
          none
        ) q211.1
    else
    if ((xs i.toNatClampNeg) &&& 63) = 15 then
      (f_X11_reset s).bind fun q208 =>
      (f_X12_reset q208.2).bind fun q209 =>
      if q208.1 = q209.1 then
        let v210 : Int32 := i + 6
        f_L_law_h xs LN n v210 q209.2
      else
        some (0, q209.2)
    else
    if ((xs i.toNatClampNeg) &&& 63) = 16 then
      if (i + 1) < 0 ∨ LN ≤ (i + 1).toNatClampNeg then
        none
      else
      if (i + 2) < 0 ∨ LN ≤ (i + 2).toNatClampNeg then
        none
      else
        (f_L_whyNotCover_0_82 (xs (i + 1).toNatClampNeg) (xs (i + 2).toNatClampNeg) s).bind fun q201 =>
        Sum.elim (fun x203 =>
          if (i + 1) < 0 ∨ LN ≤ (i + 1).toNatClampNeg then
            none
          else
          if (i + 2) < 0 ∨ LN ≤ (i + 2).toNatClampNeg then
            none
          else
            (f_X12_whyNotCover (xs (i + 1).toNatClampNeg) (xs (i + 2).toNatClampNeg) q201.2).bind fun q204 =>
            let v205 : Int32 := q204.1
            if (v_X12_thrown q204.2) = x203 then
              if x203 = 0 then
                if (lg_cmp (q204.2 82 0).toInt64 ((v205 : Int32).toInt64)) = 0 then
                  let v207 : Int32 := i + 6
                  f_L_law_h xs LN n v207 q204.2
                else
                  some (0, q204.2)
              else
                let v206 : Int32 := i + 6
                f_L_law_h xs LN n v206 q204.2
            else
              some (0, q204.2)
        ) (fun e202 =>
          none
        ) q201.1
    else
    if ((xs i.toNatClampNeg) &&& 63) = 17 then
      if (i + 1) < 0 ∨ LN ≤ (i + 1).toNatClampNeg then
        none
      else
      if (i + 2) < 0 ∨ LN ≤ (i + 2).toNatClampNeg then
        none
      else
        (f_L_whyNotSupervise_0_82 (xs (i + 1).toNatClampNeg) (xs (i + 2).toNatClampNeg) s).bind fun q194 =>
        Sum.elim (fun x196 =>
          if (i + 1) < 0 ∨ LN ≤ (i + 1).toNatClampNeg then
            none
          else
          if (i + 2) < 0 ∨ LN ≤ (i + 2).toNatClampNeg then
            none
          else
            (f_X12_whyNotSupervise (xs (i + 1).toNatClampNeg) (xs (i + 2).toNatClampNeg) q194.2).bind fun q197 =>
            let v198 : Int32 := q197.1
            if (v_X12_thrown q197.2) = x196 then
              if x196 = 0 then
                if (lg_cmp (q197.2 82 0).toInt64 ((v198 : Int32).toInt64)) = 0 then
                  let v200 : Int32 := i + 6
                  f_L_law_h xs LN n v200 q197.2
                else
                  some (0, q197.2)
              else
                let v199 : Int32 := i + 6
                f_L_law_h xs LN n v199 q197.2
            else
              some (0, q197.2)
        ) (fun e195 =>
          none
        ) q194.1
    else
    if ((xs i.toNatClampNeg) &&& 63) = 18 then
      if (i + 1) < 0 ∨ LN ≤ (i + 1).toNatClampNeg then
        none
      else
      if (i + 2) < 0 ∨ LN ≤ (i + 2).toNatClampNeg then
        none
      else
        (f_L_whyNotExchange_0_82 (xs (i + 1).toNatClampNeg) (xs (i + 2).toNatClampNeg) s).bind fun q187 =>
        Sum.elim (fun x189 =>
          if (i + 1) < 0 ∨ LN ≤ (i + 1).toNatClampNeg then
            none
          else
          if (i + 2) < 0 ∨ LN ≤ (i + 2).toNatClampNeg then
            none
          else
            (f_X12_whyNotExchange (xs (i + 1).toNatClampNeg) (xs (i + 2).toNatClampNeg) q187.2).bind fun q190 =>
            let v191 : Int32 := q190.1
            if (v_X12_thrown q190.2) = x189 then
              if x189 = 0 then
                if (lg_cmp (q190.2 82 0).toInt64 ((v191 : Int32).toInt64)) = 0 then
                  let v193 : Int32 := i + 6
                  f_L_law_h xs LN n v193 q190.2
                else
                  some (0, q190.2)
              else
                let v192 : Int32 := i + 6
                f_L_law_h xs LN n v192 q190.2
            else
              some (0, q190.2)
        ) (fun e188 =>
          none
        ) q187.1
    else
    if ((xs i.toNatClampNeg) &&& 63) = 19 then
      if (i + 1) < 0 ∨ LN ≤ (i + 1).toNatClampNeg then
        none
      else
      if (i + 2) < 0 ∨ LN ≤ (i + 2).toNatClampNeg then
        none
      else
        (f_L_whyNotMove_0_82 (xs (i + 1).toNatClampNeg) (xs (i + 2).toNatClampNeg) s).bind fun q180 =>
        Sum.elim (fun x182 =>
          if (i + 1) < 0 ∨ LN ≤ (i + 1).toNatClampNeg then
            none
          else
          if (i + 2) < 0 ∨ LN ≤ (i + 2).toNatClampNeg then
            none
          else
            (f_X12_whyNotMove (xs (i + 1).toNatClampNeg) (xs (i + 2).toNatClampNeg) q180.2).bind fun q183 =>
            let v184 : Int32 := q183.1
            if (v_X12_thrown q183.2) = x182 then
              if x182 = 0 then
                if (lg_cmp (q183.2 82 0).toInt64 ((v184 : Int32).toInt64)) = 0 then
                  let v186 : Int32 := i + 6
                  f_L_law_h xs LN n v186 q183.2
                else
                  some (0, q183.2)
              else
                let v185 : Int32 := i + 6
                f_L_law_h xs LN n v185 q183.2
            else
              some (0, q183.2)
        ) (fun e181 =>
          none
        ) q180.1
    else
    if ((xs i.toNatClampNeg) &&& 63) = 20 then
      if (i + 1) < 0 ∨ LN ≤ (i + 1).toNatClampNeg then
        none
      else
      if (i + 2) < 0 ∨ LN ≤ (i + 2).toNatClampNeg then
        none
      else
        (f_L_whyNotRoom_0_82 (xs (i + 1).toNatClampNeg) (xs (i + 2).toNatClampNeg) s).bind fun q173 =>
        Sum.elim (fun x175 =>
          if (i + 1) < 0 ∨ LN ≤ (i + 1).toNatClampNeg then
            none
          else
          if (i + 2) < 0 ∨ LN ≤ (i + 2).toNatClampNeg then
            none
          else
            (f_X12_whyNotRoom (xs (i + 1).toNatClampNeg) (xs (i + 2).toNatClampNeg) q173.2).bind fun q176 =>
            let v177 : Int32 := q176.1
            if (v_X12_thrown q176.2) = x175 then
              if x175 = 0 then
                if (lg_cmp (q176.2 82 0).toInt64 ((v177 : Int32).toInt64)) = 0 then
                  let v179 : Int32 := i + 6
                  f_L_law_h xs LN n v179 q176.2
                else
                  some (0, q176.2)
              else
                let v178 : Int32 := i + 6
                f_L_law_h xs LN n v178 q176.2
            else
              some (0, q176.2)
        ) (fun e174 =>
          none
        ) q173.1
    else
    if ((xs i.toNatClampNeg) &&& 63) = 21 then
      if (i + 1) < 0 ∨ LN ≤ (i + 1).toNatClampNeg then
        none
      else
        (f_L_candidates_0_82 (xs (i + 1).toNatClampNeg) s).bind fun q166 =>
        Sum.elim (fun x168 =>
          if (i + 1) < 0 ∨ LN ≤ (i + 1).toNatClampNeg then
            none
          else
            (f_X12_candidates (xs (i + 1).toNatClampNeg) q166.2).bind fun q169 =>
            let v170 : Int32 := q169.1
            if (v_X12_thrown q169.2) = x168 then
              if x168 = 0 then
                if (lg_cmp (q169.2 82 0).toInt64 ((v170 : Int32).toInt64)) = 0 then
                  let v172 : Int32 := i + 6
                  f_L_law_h xs LN n v172 q169.2
                else
                  some (0, q169.2)
              else
                let v171 : Int32 := i + 6
                f_L_law_h xs LN n v171 q169.2
            else
              some (0, q169.2)
        ) (fun e167 =>
          none
        ) q166.1
    else
    if ((xs i.toNatClampNeg) &&& 63) = 22 then
      if (i + 1) < 0 ∨ LN ≤ (i + 1).toNatClampNeg then
        none
      else
        (f_L_chain_0_82 (xs (i + 1).toNatClampNeg) s).bind fun q159 =>
        Sum.elim (fun x161 =>
          if (i + 1) < 0 ∨ LN ≤ (i + 1).toNatClampNeg then
            none
          else
            (f_X12_chain (xs (i + 1).toNatClampNeg) q159.2).bind fun q162 =>
            let v163 : Int32 := q162.1
            if (v_X12_thrown q162.2) = x161 then
              if x161 = 0 then
                if (lg_cmp (q162.2 82 0).toInt64 ((v163 : Int32).toInt64)) = 0 then
                  let v165 : Int32 := i + 6
                  f_L_law_h xs LN n v165 q162.2
                else
                  some (0, q162.2)
              else
                let v164 : Int32 := i + 6
                f_L_law_h xs LN n v164 q162.2
            else
              some (0, q162.2)
        ) (fun e160 =>
          none
        ) q159.1
    else
    if ((xs i.toNatClampNeg) &&& 63) = 23 then
      if (i + 1) < 0 ∨ LN ≤ (i + 1).toNatClampNeg then
        none
      else
      if (i + 2) < 0 ∨ LN ≤ (i + 2).toNatClampNeg then
        none
      else
        (f_L_chainTeacher_0_82 (xs (i + 1).toNatClampNeg) (xs (i + 2).toNatClampNeg) s).bind fun q152 =>
        Sum.elim (fun x154 =>
          if (i + 1) < 0 ∨ LN ≤ (i + 1).toNatClampNeg then
            none
          else
          if (i + 2) < 0 ∨ LN ≤ (i + 2).toNatClampNeg then
            none
          else
            (f_X12_chainTeacher (xs (i + 1).toNatClampNeg) (xs (i + 2).toNatClampNeg) q152.2).bind fun q155 =>
            let v156 : Int32 := q155.1
            if (v_X12_thrown q155.2) = x154 then
              if x154 = 0 then
                if (lg_cmp (q155.2 82 0).toInt64 ((v156 : Int32).toInt64)) = 0 then
                  let v158 : Int32 := i + 6
                  f_L_law_h xs LN n v158 q155.2
                else
                  some (0, q155.2)
              else
                let v157 : Int32 := i + 6
                f_L_law_h xs LN n v157 q155.2
            else
              some (0, q155.2)
        ) (fun e153 =>
          none
        ) q152.1
    else
    if ((xs i.toNatClampNeg) &&& 63) = 24 then
      if (i + 1) < 0 ∨ LN ≤ (i + 1).toNatClampNeg then
        none
      else
        (f_L_partners_0_82 (xs (i + 1).toNatClampNeg) s).bind fun q145 =>
        Sum.elim (fun x147 =>
          if (i + 1) < 0 ∨ LN ≤ (i + 1).toNatClampNeg then
            none
          else
            (f_X12_partners (xs (i + 1).toNatClampNeg) q145.2).bind fun q148 =>
            let v149 : Int32 := q148.1
            if (v_X12_thrown q148.2) = x147 then
              if x147 = 0 then
                if (lg_cmp (q148.2 82 0).toInt64 ((v149 : Int32).toInt64)) = 0 then
                  let v151 : Int32 := i + 6
                  f_L_law_h xs LN n v151 q148.2
                else
                  some (0, q148.2)
              else
                let v150 : Int32 := i + 6
                f_L_law_h xs LN n v150 q148.2
            else
              some (0, q148.2)
        ) (fun e146 =>
          none
        ) q145.1
    else
    if ((xs i.toNatClampNeg) &&& 63) = 25 then
      if (i + 1) < 0 ∨ LN ≤ (i + 1).toNatClampNeg then
        none
      else
        (f_L_firstPartner_0_82 (xs (i + 1).toNatClampNeg) s).bind fun q138 =>
        Sum.elim (fun x140 =>
          if (i + 1) < 0 ∨ LN ≤ (i + 1).toNatClampNeg then
            none
          else
            (f_X12_firstPartner (xs (i + 1).toNatClampNeg) q138.2).bind fun q141 =>
            let v142 : Int32 := q141.1
            if (v_X12_thrown q141.2) = x140 then
              if x140 = 0 then
                if (lg_cmp (q141.2 82 0).toInt64 ((v142 : Int32).toInt64)) = 0 then
                  let v144 : Int32 := i + 6
                  f_L_law_h xs LN n v144 q141.2
                else
                  some (0, q141.2)
              else
                let v143 : Int32 := i + 6
                f_L_law_h xs LN n v143 q141.2
            else
              some (0, q141.2)
        ) (fun e139 =>
          none
        ) q138.1
    else
    if ((xs i.toNatClampNeg) &&& 63) = 26 then
      if (i + 1) < 0 ∨ LN ≤ (i + 1).toNatClampNeg then
        none
      else
        (f_L_slotsFor_0_82 (xs (i + 1).toNatClampNeg) s).bind fun q131 =>
        Sum.elim (fun x133 =>
          if (i + 1) < 0 ∨ LN ≤ (i + 1).toNatClampNeg then
            none
          else
            (f_X12_slotsFor (xs (i + 1).toNatClampNeg) q131.2).bind fun q134 =>
            let v135 : Int32 := q134.1
            if (v_X12_thrown q134.2) = x133 then
              if x133 = 0 then
                if (lg_cmp (q134.2 82 0).toInt64 ((v135 : Int32).toInt64)) = 0 then
                  let v137 : Int32 := i + 6
                  f_L_law_h xs LN n v137 q134.2
                else
                  some (0, q134.2)
              else
                let v136 : Int32 := i + 6
                f_L_law_h xs LN n v136 q134.2
            else
              some (0, q134.2)
        ) (fun e132 =>
          none
        ) q131.1
    else
    if ((xs i.toNatClampNeg) &&& 63) = 27 then
      if (i + 1) < 0 ∨ LN ≤ (i + 1).toNatClampNeg then
        none
      else
        (f_L_count_0_82 (xs (i + 1).toNatClampNeg) s).bind fun q124 =>
        Sum.elim (fun x126 =>
          if (i + 1) < 0 ∨ LN ≤ (i + 1).toNatClampNeg then
            none
          else
            (f_X12_count (xs (i + 1).toNatClampNeg) q124.2).bind fun q127 =>
            let v128 : Int32 := q127.1
            if (v_X12_thrown q127.2) = x126 then
              if x126 = 0 then
                if (lg_cmp (q127.2 82 0).toInt64 ((v128 : Int32).toInt64)) = 0 then
                  let v130 : Int32 := i + 6
                  f_L_law_h xs LN n v130 q127.2
                else
                  some (0, q127.2)
              else
                let v129 : Int32 := i + 6
                f_L_law_h xs LN n v129 q127.2
            else
              some (0, q127.2)
        ) (fun e125 =>
          none
        ) q124.1
    else
    if ((xs i.toNatClampNeg) &&& 63) = 28 then
      if (i + 1) < 0 ∨ LN ≤ (i + 1).toNatClampNeg then
        none
      else
      if (i + 2) < 0 ∨ LN ≤ (i + 2).toNatClampNeg then
        none
      else
        (f_L_lesson_0_82 (xs (i + 1).toNatClampNeg) (xs (i + 2).toNatClampNeg) s).bind fun q117 =>
        Sum.elim (fun x119 =>
          if (i + 1) < 0 ∨ LN ≤ (i + 1).toNatClampNeg then
            none
          else
          if (i + 2) < 0 ∨ LN ≤ (i + 2).toNatClampNeg then
            none
          else
            (f_X12_lesson (xs (i + 1).toNatClampNeg) (xs (i + 2).toNatClampNeg) q117.2).bind fun q120 =>
            let v121 : Int32 := q120.1
            if (v_X12_thrown q120.2) = x119 then
              if x119 = 0 then
                if (lg_cmp (q120.2 82 0).toInt64 ((v121 : Int32).toInt64)) = 0 then
                  let v123 : Int32 := i + 6
                  f_L_law_h xs LN n v123 q120.2
                else
                  some (0, q120.2)
              else
                let v122 : Int32 := i + 6
                f_L_law_h xs LN n v122 q120.2
            else
              some (0, q120.2)
        ) (fun e118 =>
          none
        ) q117.1
    else
    if ((xs i.toNatClampNeg) &&& 63) = 29 then
      if (i + 1) < 0 ∨ LN ≤ (i + 1).toNatClampNeg then
        none
      else
      if (i + 2) < 0 ∨ LN ≤ (i + 2).toNatClampNeg then
        none
      else
        (f_L_teacher_0_82 (xs (i + 1).toNatClampNeg) (xs (i + 2).toNatClampNeg) s).bind fun q110 =>
        Sum.elim (fun x112 =>
          if (i + 1) < 0 ∨ LN ≤ (i + 1).toNatClampNeg then
            none
          else
          if (i + 2) < 0 ∨ LN ≤ (i + 2).toNatClampNeg then
            none
          else
            (f_X12_teacher (xs (i + 1).toNatClampNeg) (xs (i + 2).toNatClampNeg) q110.2).bind fun q113 =>
            let v114 : Int32 := q113.1
            if (v_X12_thrown q113.2) = x112 then
              if x112 = 0 then
                if (lg_cmp (q113.2 82 0).toInt64 ((v114 : Int32).toInt64)) = 0 then
                  let v116 : Int32 := i + 6
                  f_L_law_h xs LN n v116 q113.2
                else
                  some (0, q113.2)
              else
                let v115 : Int32 := i + 6
                f_L_law_h xs LN n v115 q113.2
            else
              some (0, q113.2)
        ) (fun e111 =>
          none
        ) q110.1
    else
    if ((xs i.toNatClampNeg) &&& 63) = 30 then
      if (i + 1) < 0 ∨ LN ≤ (i + 1).toNatClampNeg then
        none
      else
      if (i + 2) < 0 ∨ LN ≤ (i + 2).toNatClampNeg then
        none
      else
        (f_L_room_0_82 (xs (i + 1).toNatClampNeg) (xs (i + 2).toNatClampNeg) s).bind fun q103 =>
        Sum.elim (fun x105 =>
          if (i + 1) < 0 ∨ LN ≤ (i + 1).toNatClampNeg then
            none
          else
          if (i + 2) < 0 ∨ LN ≤ (i + 2).toNatClampNeg then
            none
          else
            (f_X12_room (xs (i + 1).toNatClampNeg) (xs (i + 2).toNatClampNeg) q103.2).bind fun q106 =>
            let v107 : Int32 := q106.1
            if (v_X12_thrown q106.2) = x105 then
              if x105 = 0 then
                if (lg_cmp (q106.2 82 0).toInt64 ((v107 : Int32).toInt64)) = 0 then
                  let v109 : Int32 := i + 6
                  f_L_law_h xs LN n v109 q106.2
                else
                  some (0, q106.2)
              else
                let v108 : Int32 := i + 6
                f_L_law_h xs LN n v108 q106.2
            else
              some (0, q106.2)
        ) (fun e104 =>
          none
        ) q103.1
    else
    if ((xs i.toNatClampNeg) &&& 63) = 31 then
      if (i + 1) < 0 ∨ LN ≤ (i + 1).toNatClampNeg then
        none
      else
      if (i + 2) < 0 ∨ LN ≤ (i + 2).toNatClampNeg then
        none
      else
        (f_L_subject_0_82 (xs (i + 1).toNatClampNeg) (xs (i + 2).toNatClampNeg) s).bind fun q96 =>
        Sum.elim (fun x98 =>
          if (i + 1) < 0 ∨ LN ≤ (i + 1).toNatClampNeg then
            none
          else
          if (i + 2) < 0 ∨ LN ≤ (i + 2).toNatClampNeg then
            none
          else
            (f_X12_subject (xs (i + 1).toNatClampNeg) (xs (i + 2).toNatClampNeg) q96.2).bind fun q99 =>
            let v100 : Int32 := q99.1
            if (v_X12_thrown q99.2) = x98 then
              if x98 = 0 then
                if (lg_cmp (q99.2 82 0).toInt64 ((v100 : Int32).toInt64)) = 0 then
                  let v102 : Int32 := i + 6
                  f_L_law_h xs LN n v102 q99.2
                else
                  some (0, q99.2)
              else
                let v101 : Int32 := i + 6
                f_L_law_h xs LN n v101 q99.2
            else
              some (0, q99.2)
        ) (fun e97 =>
          none
        ) q96.1
    else
    if ((xs i.toNatClampNeg) &&& 63) = 32 then
      if (i + 1) < 0 ∨ LN ≤ (i + 1).toNatClampNeg then
        none
      else
      if (i + 2) < 0 ∨ LN ≤ (i + 2).toNatClampNeg then
        none
      else
        (f_L_lessonOfClass_0_82 (xs (i + 1).toNatClampNeg) (xs (i + 2).toNatClampNeg) s).bind fun q89 =>
        Sum.elim (fun x91 =>
          if (i + 1) < 0 ∨ LN ≤ (i + 1).toNatClampNeg then
            none
          else
          if (i + 2) < 0 ∨ LN ≤ (i + 2).toNatClampNeg then
            none
          else
            (f_X12_lessonOfClass (xs (i + 1).toNatClampNeg) (xs (i + 2).toNatClampNeg) q89.2).bind fun q92 =>
            let v93 : Int32 := q92.1
            if (v_X12_thrown q92.2) = x91 then
              if x91 = 0 then
                if (lg_cmp (q92.2 82 0).toInt64 ((v93 : Int32).toInt64)) = 0 then
                  let v95 : Int32 := i + 6
                  f_L_law_h xs LN n v95 q92.2
                else
                  some (0, q92.2)
              else
                let v94 : Int32 := i + 6
                f_L_law_h xs LN n v94 q92.2
            else
              some (0, q92.2)
        ) (fun e90 =>
          none
        ) q89.1
    else
    if ((xs i.toNatClampNeg) &&& 63) = 33 then
      if (i + 1) < 0 ∨ LN ≤ (i + 1).toNatClampNeg then
        none
      else
      if (i + 2) < 0 ∨ LN ≤ (i + 2).toNatClampNeg then
        none
      else
        (f_L_lessonOfTeacher_0_82 (xs (i + 1).toNatClampNeg) (xs (i + 2).toNatClampNeg) s).bind fun q82 =>
        Sum.elim (fun x84 =>
          if (i + 1) < 0 ∨ LN ≤ (i + 1).toNatClampNeg then
            none
          else
          if (i + 2) < 0 ∨ LN ≤ (i + 2).toNatClampNeg then
            none
          else
            (f_X12_lessonOfTeacher (xs (i + 1).toNatClampNeg) (xs (i + 2).toNatClampNeg) q82.2).bind fun q85 =>
            let v86 : Int32 := q85.1
            if (v_X12_thrown q85.2) = x84 then
              if x84 = 0 then
                if (lg_cmp (q85.2 82 0).toInt64 ((v86 : Int32).toInt64)) = 0 then
                  let v88 : Int32 := i + 6
                  f_L_law_h xs LN n v88 q85.2
                else
                  some (0, q85.2)
              else
                let v87 : Int32 := i + 6
                f_L_law_h xs LN n v87 q85.2
            else
              some (0, q85.2)
        ) (fun e83 =>
          none
        ) q82.1
    else
    if ((xs i.toNatClampNeg) &&& 63) = 34 then
      if (i + 1) < 0 ∨ LN ≤ (i + 1).toNatClampNeg then
        none
      else
      if (i + 2) < 0 ∨ LN ≤ (i + 2).toNatClampNeg then
        none
      else
        (f_L_lessonInRoom_0_82 (xs (i + 1).toNatClampNeg) (xs (i + 2).toNatClampNeg) s).bind fun q75 =>
        Sum.elim (fun x77 =>
          if (i + 1) < 0 ∨ LN ≤ (i + 1).toNatClampNeg then
            none
          else
          if (i + 2) < 0 ∨ LN ≤ (i + 2).toNatClampNeg then
            none
          else
            (f_X12_lessonInRoom (xs (i + 1).toNatClampNeg) (xs (i + 2).toNatClampNeg) q75.2).bind fun q78 =>
            let v79 : Int32 := q78.1
            if (v_X12_thrown q78.2) = x77 then
              if x77 = 0 then
                if (lg_cmp (q78.2 82 0).toInt64 ((v79 : Int32).toInt64)) = 0 then
                  let v81 : Int32 := i + 6
                  f_L_law_h xs LN n v81 q78.2
                else
                  some (0, q78.2)
              else
                let v80 : Int32 := i + 6
                f_L_law_h xs LN n v80 q78.2
            else
              some (0, q78.2)
        ) (fun e76 =>
          none
        ) q75.1
    else
    if ((xs i.toNatClampNeg) &&& 63) = 35 then
      if (i + 1) < 0 ∨ LN ≤ (i + 1).toNatClampNeg then
        none
      else
        (f_L_freeTeachers_0_82 (xs (i + 1).toNatClampNeg) s).bind fun q68 =>
        Sum.elim (fun x70 =>
          if (i + 1) < 0 ∨ LN ≤ (i + 1).toNatClampNeg then
            none
          else
            (f_X12_freeTeachers (xs (i + 1).toNatClampNeg) q68.2).bind fun q71 =>
            let v72 : Int32 := q71.1
            if (v_X12_thrown q71.2) = x70 then
              if x70 = 0 then
                if (lg_cmp (q71.2 82 0).toInt64 ((v72 : Int32).toInt64)) = 0 then
                  let v74 : Int32 := i + 6
                  f_L_law_h xs LN n v74 q71.2
                else
                  some (0, q71.2)
              else
                let v73 : Int32 := i + 6
                f_L_law_h xs LN n v73 q71.2
            else
              some (0, q71.2)
        ) (fun e69 =>
          none
        ) q68.1
    else
    if ((xs i.toNatClampNeg) &&& 63) = 36 then
      if (i + 1) < 0 ∨ LN ≤ (i + 1).toNatClampNeg then
        none
      else
      if (i + 2) < 0 ∨ LN ≤ (i + 2).toNatClampNeg then
        none
      else
        (f_L_freeRooms_0_82 (xs (i + 1).toNatClampNeg) (xs (i + 2).toNatClampNeg) s).bind fun q61 =>
        Sum.elim (fun x63 =>
          if (i + 1) < 0 ∨ LN ≤ (i + 1).toNatClampNeg then
            none
          else
          if (i + 2) < 0 ∨ LN ≤ (i + 2).toNatClampNeg then
            none
          else
            (f_X12_freeRooms (xs (i + 1).toNatClampNeg) (xs (i + 2).toNatClampNeg) q61.2).bind fun q64 =>
            let v65 : Int32 := q64.1
            if (v_X12_thrown q64.2) = x63 then
              if x63 = 0 then
                if (lg_cmp (q64.2 82 0).toInt64 ((v65 : Int32).toInt64)) = 0 then
                  let v67 : Int32 := i + 6
                  f_L_law_h xs LN n v67 q64.2
                else
                  some (0, q64.2)
              else
                let v66 : Int32 := i + 6
                f_L_law_h xs LN n v66 q64.2
            else
              some (0, q64.2)
        ) (fun e62 =>
          none
        ) q61.1
    else
    if ((xs i.toNatClampNeg) &&& 63) = 37 then
      if (i + 1) < 0 ∨ LN ≤ (i + 1).toNatClampNeg then
        none
      else
        (f_L_openLesson_0_82 (xs (i + 1).toNatClampNeg) s).bind fun q54 =>
        Sum.elim (fun x56 =>
          if (i + 1) < 0 ∨ LN ≤ (i + 1).toNatClampNeg then
            none
          else
            (f_X12_openLesson (xs (i + 1).toNatClampNeg) q54.2).bind fun q57 =>
            let v58 : Int32 := q57.1
            if (v_X12_thrown q57.2) = x56 then
              if x56 = 0 then
                if (lg_cmp (q57.2 82 0).toInt64 ((v58 : Int32).toInt64)) = 0 then
                  let v60 : Int32 := i + 6
                  f_L_law_h xs LN n v60 q57.2
                else
                  some (0, q57.2)
              else
                let v59 : Int32 := i + 6
                f_L_law_h xs LN n v59 q57.2
            else
              some (0, q57.2)
        ) (fun e55 =>
          none
        ) q54.1
    else
    if ((xs i.toNatClampNeg) &&& 63) = 38 then
      if (i + 1) < 0 ∨ LN ≤ (i + 1).toNatClampNeg then
        none
      else
        (f_L_difference_0_82 (xs (i + 1).toNatClampNeg) s).bind fun q47 =>
        Sum.elim (fun x49 =>
          if (i + 1) < 0 ∨ LN ≤ (i + 1).toNatClampNeg then
            none
          else
            (f_X12_difference (xs (i + 1).toNatClampNeg) q47.2).bind fun q50 =>
            let v51 : Int32 := q50.1
            if (v_X12_thrown q50.2) = x49 then
              if x49 = 0 then
                if (lg_cmp (q50.2 82 0).toInt64 ((v51 : Int32).toInt64)) = 0 then
                  let v53 : Int32 := i + 6
                  f_L_law_h xs LN n v53 q50.2
                else
                  some (0, q50.2)
              else
                let v52 : Int32 := i + 6
                f_L_law_h xs LN n v52 q50.2
            else
              some (0, q50.2)
        ) (fun e48 =>
          none
        ) q47.1
    else
    if ((xs i.toNatClampNeg) &&& 63) = 39 then
      if (i + 1) < 0 ∨ LN ≤ (i + 1).toNatClampNeg then
        none
      else
      if (i + 2) < 0 ∨ LN ≤ (i + 2).toNatClampNeg then
        none
      else
        (f_L_windows_0_82 (xs (i + 1).toNatClampNeg) (xs (i + 2).toNatClampNeg) s).bind fun q40 =>
        Sum.elim (fun x42 =>
          if (i + 1) < 0 ∨ LN ≤ (i + 1).toNatClampNeg then
            none
          else
          if (i + 2) < 0 ∨ LN ≤ (i + 2).toNatClampNeg then
            none
          else
            (f_X12_windows (xs (i + 1).toNatClampNeg) (xs (i + 2).toNatClampNeg) q40.2).bind fun q43 =>
            let v44 : Int32 := q43.1
            if (v_X12_thrown q43.2) = x42 then
              if x42 = 0 then
                if (lg_cmp (q43.2 82 0).toInt64 ((v44 : Int32).toInt64)) = 0 then
                  let v46 : Int32 := i + 6
                  f_L_law_h xs LN n v46 q43.2
                else
                  some (0, q43.2)
              else
                let v45 : Int32 := i + 6
                f_L_law_h xs LN n v45 q43.2
            else
              some (0, q43.2)
        ) (fun e41 =>
          none
        ) q40.1
    else
    if ((xs i.toNatClampNeg) &&& 63) = 40 then
      if (i + 1) < 0 ∨ LN ≤ (i + 1).toNatClampNeg then
        none
      else
      if (i + 2) < 0 ∨ LN ≤ (i + 2).toNatClampNeg then
        none
      else
        (f_L_classWindows_0_82 (xs (i + 1).toNatClampNeg) (xs (i + 2).toNatClampNeg) s).bind fun q33 =>
        Sum.elim (fun x35 =>
          if (i + 1) < 0 ∨ LN ≤ (i + 1).toNatClampNeg then
            none
          else
          if (i + 2) < 0 ∨ LN ≤ (i + 2).toNatClampNeg then
            none
          else
            (f_X12_classWindows (xs (i + 1).toNatClampNeg) (xs (i + 2).toNatClampNeg) q33.2).bind fun q36 =>
            let v37 : Int32 := q36.1
            if (v_X12_thrown q36.2) = x35 then
              if x35 = 0 then
                if (lg_cmp (q36.2 82 0).toInt64 ((v37 : Int32).toInt64)) = 0 then
                  let v39 : Int32 := i + 6
                  f_L_law_h xs LN n v39 q36.2
                else
                  some (0, q36.2)
              else
                let v38 : Int32 := i + 6
                f_L_law_h xs LN n v38 q36.2
            else
              some (0, q36.2)
        ) (fun e34 =>
          none
        ) q33.1
    else
    if ((xs i.toNatClampNeg) &&& 63) = 41 then
      (f_X11_spread s).bind fun x30 =>
      (f_X12_spread s).bind fun q31 =>
      if x30 = q31.1 then
        let v32 : Int32 := i + 6
        f_L_law_h xs LN n v32 q31.2
      else
        some (0, q31.2)
    else
    if ((xs i.toNatClampNeg) &&& 63) = 42 then
      (f_X11_taughtShare s).bind fun x25 =>
      (f_X12_taughtShare s).bind fun q26 =>
      let v27 : UInt64 := q26.1
      if (Op.cmpValue (FP.dcmp x25 v27) .l) = 0 then
        let v28 : Int32 := i + 6
        f_L_law_h xs LN n v28 q26.2
      else
      if (Op.cmpValue (FP.dcmp x25 x25) .l) = 0 then
        some (0, q26.2)
      else
      if (Op.cmpValue (FP.dcmp v27 v27) .l) = 0 then
        some (0, q26.2)
      else
        let v29 : Int32 := i + 6
        f_L_law_h xs LN n v29 q26.2
    else
    if ((xs i.toNatClampNeg) &&& 63) = 43 then
      if (i + 1) < 0 ∨ LN ≤ (i + 1).toNatClampNeg then
        none
      else
        (f_L_writeReport_0_82 (xs (i + 1).toNatClampNeg) s).bind fun q18 =>
        Sum.elim (fun x20 =>
          if (i + 1) < 0 ∨ LN ≤ (i + 1).toNatClampNeg then
            none
          else
            (f_X12_writeReport (xs (i + 1).toNatClampNeg) q18.2).bind fun q21 =>
            let v22 : Int32 := q21.1
            if (v_X12_thrown q21.2) = x20 then
              if x20 = 0 then
                if (lg_cmp (q21.2 82 0).toInt64 ((v22 : Int32).toInt64)) = 0 then
                  let v24 : Int32 := i + 6
                  f_L_law_h xs LN n v24 q21.2
                else
                  some (0, q21.2)
              else
                let v23 : Int32 := i + 6
                f_L_law_h xs LN n v23 q21.2
            else
              some (0, q21.2)
        ) (fun e19 =>
          none
        ) q18.1
    else
    if ((xs i.toNatClampNeg) &&& 63) = 44 then
      if (i + 1) < 0 ∨ LN ≤ (i + 1).toNatClampNeg then
        none
      else
        (f_L_reportByte_0_82 (xs (i + 1).toNatClampNeg) s).bind fun q11 =>
        Sum.elim (fun x13 =>
          if (i + 1) < 0 ∨ LN ≤ (i + 1).toNatClampNeg then
            none
          else
            (f_X12_reportByte (xs (i + 1).toNatClampNeg) q11.2).bind fun q14 =>
            let v15 : Int32 := q14.1
            if (v_X12_thrown q14.2) = x13 then
              if x13 = 0 then
                if (lg_cmp (q14.2 82 0).toInt64 ((v15 : Int32).toInt64)) = 0 then
                  let v17 : Int32 := i + 6
                  f_L_law_h xs LN n v17 q14.2
                else
                  some (0, q14.2)
              else
                let v16 : Int32 := i + 6
                f_L_law_h xs LN n v16 q14.2
            else
              some (0, q14.2)
        ) (fun e12 =>
          none
        ) q11.1
    else
    if ((xs i.toNatClampNeg) &&& 63) = 45 then
      (f_L_undo_0_82 s).bind fun q4 =>
      Sum.elim (fun x6 =>
        (f_X12_undo q4.2).bind fun q7 =>
        let v8 : Int32 := q7.1
        if (v_X12_thrown q7.2) = x6 then
          if x6 = 0 then
            if (lg_cmp (q7.2 82 0).toInt64 ((v8 : Int32).toInt64)) = 0 then
              let v10 : Int32 := i + 6
              f_L_law_h xs LN n v10 q7.2
            else
              some (0, q7.2)
          else
            let v9 : Int32 := i + 6
            f_L_law_h xs LN n v9 q7.2
        else
          some (0, q7.2)
      ) (fun e5 =>
        none
      ) q4.1
    else
    if ((xs i.toNatClampNeg) &&& 63) = 46 then
      let q2 : Int32 × ga_M := v_X12_undoDepth s
      if (v_X11_undoDepth s) = q2.1 then
        let v3 : Int32 := i + 6
        f_L_law_h xs LN n v3 q2.2
      else
        some (0, q2.2)
    else
      let v1 : Int32 := i + 6
      f_L_law_h xs LN n v1 s
def f_L_law2 (xs : Nat → Int32) (LN N : Nat) (s : ga_M) : Option (Int32 × ga_M) := f_L_law_h xs LN N 0 (ga_z s 82)
def f_L_law1 (xs : Nat → Int32) (LN N : Nat) (s : ga_M) : Option (Int32 × ga_M) := (zk_X12_init_72 (ga_z s 72)).bind fun q => bif gk_eq q.1 gkB_X12_init_72 then f_L_law2 xs LN N q.2 else none
def f_L_law (xs : Nat → Int32) (LN N : Nat) (s : ga_M) : Option (Int32 × ga_M) := (zk_X11_init_0 (ga_z s 0)).bind fun q => bif gk_eq q.1 gkB_X11_init_0 then f_L_law1 xs LN N q.2 else none
end
