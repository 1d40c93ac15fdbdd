/-! the reference's state: thrown, length, nodes; its arrays by number: 1 text, 2 marks, 3 whats, 4 ones, 5 others, 6 gaps, 7 depths, 8 isNeeded, 9 rows, 10 moved -/
abbrev MS : Type := Int × Int × Nat × (Nat → Nat → Int32)
abbrev mT (M : MS) : Int := M.1
abbrev mN (M : MS) : Int := M.2.1
abbrev mC (M : MS) : Nat := M.2.2.1
abbrev mA (M : MS) : Nat → Nat → Int32 := M.2.2.2
def mLen (j : Nat) : Nat := if j = 1 then 24 else if j = 2 then 100 else if j = 9 then 750 else if j = 10 then 25 else 30
def mTy (j : Nat) : Nat := if j = 8 then 1 else 0
def mRep (k : Nat → ClassId) (L : List Nat) (f : Nat → va_E) (a : Nat → Nat) (M : MS) : Prop :=
  f (a 0) = .inr (9, [.int (zI (mT M)), .ref (a 1), .int (zI (mN M)), .ref (a 2), .int (zI (mC M : Int)), .ref (a 3), .ref (a 4), .ref (a 5), .ref (a 6), .ref (a 7), .ref (a 8), .ref (a 9), .ref (a 10)]) ∧ (∀ j, 1 ≤ j → j < 11 → f (a j) = .inl (k (mTy j), mLen j, .inl (mA M j))) ∧ (∀ j, j < 11 → a j ∈ L) ∧ ∀ i j, i < 11 → j < 11 → a i = a j → i = j
