/-- the bit at a place, shifted down -/
theorem sh_bit {x : Int32} {z : Int} {j : Nat} (hz : z = j) (hj : j < 32) : (x >>> (zI z &&& 31)) &&& zI 1 = zI (if bt x j = true then 1 else 0) := by
  have e : zI z = nI j := by rw [hz, zI_nat]
  rw [e]
  apply b_ext
  intro i hi
  have h1 : bt (zI 1) i = decide (i = 0) := bt_1 i
  rw [b_and, b_sshr j hj x hi, h1]
  by_cases c : i = 0
  · subst c
    rw [if_pos (by omega), Nat.add_zero, decide_eq_true rfl, Bool.and_true]
    cases b : bt x j with
    | false => rw [if_neg (by decide), b_z0]
    | true => rw [if_pos rfl]; decide
  · rw [decide_eq_false c, Bool.and_false]
    cases b : bt x j with
    | false => rw [if_neg (by decide), b_z0]
    | true => rw [if_pos rfl, show bt (zI 1) i = decide (i = 0) from bt_1 i, decide_eq_false c]
theorem ct_sh {x : Int32} {z1 z2 : Int} {j : Nat} (h2 : z2 = j) (h1 : z1 = ((fb_ct (bt x) j : Nat) : Int)) : z1 + (if bt x j = true then 1 else 0) = ((fb_ct (bt x) (j + 1) : Nat) : Int) := by
  rw [fb_ct_succ, h1]
  by_cases c : bt x j = true
  · rw [if_pos c, if_pos c]; omega
  · rw [if_neg c, if_neg c]; omega
