/-- the letters from z on moved up, those above z3 so far -/
def shU (T : Nat → Int32) (z n z3 : Int) : Nat → Int32 := fun j => if z3 < (j : Int) ∧ (j : Int) ≤ n then T (j - 1) else T j
theorem shU_0 (T : Nat → Int32) (z n : Int) : shU T z n n = T := by
  funext j
  unfold shU
  rw [if_neg (by omega)]
theorem shU_s {T : Nat → Int32} {z n z3 : Int} (h : 0 ≤ z ∧ z < z3 ∧ z3 ≤ n) : upd (shU T z n z3) z3.toNat (shU T z n z3 (z3 - 1).toNat) = shU T z n (z3 - 1) := by
  funext j
  by_cases q : j = z3.toNat
  · subst q
    rw [pk_us]
    unfold shU
    rw [if_neg (by omega), if_pos (by omega), show (z3 - 1).toNat = z3.toNat - 1 by omega]
  · rw [pk_un q]
    unfold shU
    by_cases a : z3 < (j : Int) ∧ (j : Int) ≤ n
    · rw [if_pos a, if_pos (by omega)]
    · rw [if_neg a, if_neg (by omega)]
/-- the letters behind z moved down, as far as z3 -/
def shD (T : Nat → Int32) (z z3 : Int) : Nat → Int32 := fun j => if z ≤ (j : Int) ∧ (j : Int) < z3 then T (j + 1) else T j
theorem shD_0 (T : Nat → Int32) (z : Int) : shD T z z = T := by
  funext j
  unfold shD
  rw [if_neg (by omega)]
theorem shD_s {T : Nat → Int32} {z z3 : Int} (h : 0 ≤ z ∧ z ≤ z3) : upd (shD T z z3) z3.toNat (shD T z z3 (z3 + 1).toNat) = shD T z (z3 + 1) := by
  funext j
  by_cases q : j = z3.toNat
  · subst q
    rw [pk_us]
    unfold shD
    rw [if_neg (by omega), if_pos (by omega), show (z3 + 1).toNat = z3.toNat + 1 by omega]
  · rw [pk_un q]
    unfold shD
    by_cases a : z ≤ (j : Int) ∧ (j : Int) < z3
    · rw [if_pos a, if_pos (by omega)]
    · rw [if_neg a, if_neg (by omega)]
