theorem kJ6_bitCount (l : Launch) (D : va_G) (k : Nat → ClassId) (L : List Nat) (f : Nat → va_E) (x : Int32) : Met l yJ6_bitCount_0f7a4 wsJ6_bitCount_0f7a4 ({ frames := 0, cells := 0, slots := 0, locals := 0 } : Room) (va_Pc [.int x] (rPre D (tyL k) (va_pl L f))) (vp_Si (fun r9 => r9 = zI (pc1 x : Int))) 0 0 (fun _ => False) := by
  sorry
