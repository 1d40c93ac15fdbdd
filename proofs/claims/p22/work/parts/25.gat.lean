/-- what gathering makes of the row arrays: of one node, of the needed ones below m -/
def gatF (S : SA) (G : Nat → Nat → Int32) (i : Nat) : Nat → Int32 :=
  if sW S i = 12 then fa_fill (fun j => rowAt (sR S (sO S i)) (j : Int)) (G i) 24
  else if sW S i = 11 then ltF (sT S) (zI (sO S i : Int)) (G i) (sN S).toNat
  else if sW S i = 10 then fa_fill (jnF (G (sO S i)) (G (sP S i)) (sG S i)) (G i) 24
  else if sW S i = 13 ∨ sW S i = 14 then (if decide (sW S i = 14) = true then fa_fill (koF (fa_fill (fun j => rowAt (G (sO S i)) (j : Int)) (G i) 24)) (fa_fill (fun j => rowAt (G (sO S i)) (j : Int)) (G i) 24) 24 else fa_fill (kiF (fa_fill (fun j => rowAt (G (sO S i)) (j : Int)) (G i) 24)) (fa_fill (fun j => rowAt (G (sO S i)) (j : Int)) (G i) 24) 24)
  else if sW S i = 9 then fa_fill (kiF (fa_fill (jnF (G (sO S i)) (G (sP S i)) 24) (G i) 24)) (fa_fill (jnF (G (sO S i)) (G (sP S i)) 24) (G i) 24) 24
  else fa_fill (paF (sW S i : Int) (G (sO S i)) (G (sP S i))) (G i) 24
def gatN (S : SA) (nd : Int32) (G : Nat → Nat → Int32) : Nat → Nat → Nat → Int32
  | 0 => G
  | m + 1 => if m < sC S ∧ bt nd m = true then (fun j => if j = m then gatF S (gatN S nd G m) m else gatN S nd G m j) else gatN S nd G m
/-- the ghosts with other rows of one role -/
def setRw (g : CG) (r : Nat) (G : Nat → Nat → Int32) : CG := (gA g, gN g, gM g, gE g, gO g, gD g, fun r9 => if r9 = r then G else gR g r9)
theorem setRw_id (g : CG) (r : Nat) : setRw g r (gR g r) = g := by
  unfold setRw
  have : (fun r9 => if r9 = r then gR g r else gR g r9) = gR g := funext fun r9 => by
    by_cases h : r9 = r
    · rw [if_pos h, h]
    · rw [if_neg h]
  rw [this]
theorem cRep.set {k : Nat → ClassId} {L : List Nat} {f : Nat → va_E} {g : CG} {S : SA} {r : Nat} {G : Nat → Nat → Int32} (h : cRep k L f (setRw g r G) S) {i : Nat} (hi : i < sC S) (hr : r = 2 ∨ r = 4 ∨ (r = 6 ∧ sW S i = 9)) (X : Nat → Int32) : cRep k L (va_up f (gN g r i) (.inl (k 0, 24, .inl X))) (setRw g r (fun j => if j = i then X else G j)) S := by
  have h1 := h.row hi hr X
  have e : (gA (setRw g r G), gN (setRw g r G), gM (setRw g r G), gE (setRw g r G), gO (setRw g r G), gD (setRw g r G), fun r9 i9 => if r9 = r ∧ i9 = i then X else gR (setRw g r G) r9 i9) = setRw g r (fun j => if j = i then X else G j) := by
    unfold setRw
    have : (fun r9 i9 => if r9 = r ∧ i9 = i then X else (if r9 = r then G else gR g r9) i9) = (fun r9 => if r9 = r then (fun j => if j = i then X else G j) else gR g r9) := funext fun r9 => funext fun i9 => by
      by_cases h : r9 = r
      · rw [if_pos h, if_pos h]
        by_cases h2 : i9 = i
        · rw [if_pos h2, if_pos ⟨h, h2⟩]
        · rw [if_neg h2, if_neg (fun q => h2 q.2)]
      · rw [if_neg h, if_neg h, if_neg (fun q => h q.1)]
    exact congrArg (fun x => (gA g, gN g, gM g, gE g, gO g, gD g, x)) this
  rw [← e]
  exact h1
section GAT
variable {k : Nat → ClassId} {L : List Nat} {f : Nat → va_E} {g : CG} {S : SA}
theorem cRep.own_ne {x y h1 h2 a b : Nat} {G1 G2 : Nat → Int32} (h3 : setAt k L f (gO g) h1 x G1 a) (h4 : setAt k L f (gO g) h2 y G2 b) (h : a ≠ b) : x ≠ y := fun e => h (by rw [← h3.2.2.2.2, ← h4.2.2.2.2, e])
theorem cRep.s2 (h : cRep k L f g S) {i : Nat} (hi : i < sC S) : setAt k L f (gO g) (gN g 1 i) (gN g 2 i) (gR g 2 i) (5 + 3 * i) := (h.2.2.2.2.1 i hi).2.2.1
theorem cRep.s4 (h : cRep k L f g S) {i : Nat} (hi : i < sC S) : setAt k L f (gO g) (gN g 3 i) (gN g 4 i) (gR g 4 i) (6 + 3 * i) := (h.2.2.2.2.1 i hi).2.2.2.1
theorem cRep.s6 (h : cRep k L f g S) {i : Nat} (hi : i < sC S) (h9 : sW S i = 9) : setAt k L f (gO g) (gN g 5 i) (gN g 6 i) (gR g 6 i) (7 + 3 * i) := (h.2.2.2.2.1 i hi).2.2.2.2.1 h9
theorem cRep.la_ne (h : cRep k L f g S) {x h1 a : Nat} {G : Nat → Int32} (h3 : setAt k L f (gO g) h1 x G a) (ha : a ≠ 0) : gA g 2 ≠ x := fun e => ha (by rw [← h3.2.2.2.2, ← e]; exact h.2.2.1)
end GAT

theorem aOK.dB {S : SA} (h : aOK S) {i : Nat} (hi : i < sC S) : -100 ≤ sD S i ∧ sD S i ≤ 100 := by have := (h.2.2.2.2 i hi).2.1; omega
theorem kG1 (l : Launch) (D : va_G) {k : Nat → ClassId} {L : List Nat} {f : Nat → va_E} {g : CG} {S : SA} (hR : cRep k L f g S) (hO : aOK S) {i : Nat} (hi : i < sC S) (hw : sW S i = 12) (n0 sz : Nat) : Met l yX1_gather wsX1_gather ({ frames := 2, cells := 0, slots := 0, locals := 43 } : Room) (va_Pc [.ref (gN g 0 i), .ref (gA g 1)] (pPre D (tyL k) n0 (va_pl L f) sz)) (va_Qv (fun u => u = va_pl L (va_up f (gN g 2 i) (.inl (k 0, 24, .inl (gatF S (gR g 2) i))))) (pB D (va_pl L f) sz) (va_A (va_pl L f) sz)) 0 0 (va_A (va_pl L f) sz) := by
  obtain ⟨m0, e0⟩ := (hR.2.2.2.2.1 i hi).2.1
  have hk := (hO.2.2.2.2 i hi).2.2.2.1 hw
  have he : exK (sW S i) = 0 := by
    unfold exK
    repeat' split
    all_goals omega
  rw [he] at e0
  unfold nodeV at e0
  rw [if_pos (show sW S i = 12 by omega)] at e0
  unfold gatF
  rw [if_pos (show sW S i = 12 by omega)]
  exact kX1_gather l D k L f (gN g 0 i) (sD S i) (gD g i) (gN g 3 i) (gA g (5 + sO S i)) (gA g (9 + sO S i)) (sR S (sO S i)) (gN g 1 i) (gN g 2 i) (gR g 2 i) (hR.s2 hi).1 (hR.s2 hi).2.1 (hR.s2 hi).2.2.1 (hR.s2 hi).2.2.2.1 m0 e0 (hR.2.2.2.1 (sO S i) hk).2.1 (hR.2.2.2.1 (sO S i) hk).2.2.1 (hR.2.2.2.1 (sO S i) hk).2.2.2.1 (hR.2.2.2.1 (sO S i) hk).2.2.2.2.1 (cRep.own_ne (hR.2.2.2.1 (sO S i) hk).2 (hR.s2 hi) (by omega)) (gA g 1) n0 sz
theorem kG2 (l : Launch) (D : va_G) {k : Nat → ClassId} {L : List Nat} {f : Nat → va_E} {g : CG} {S : SA} (hR : cRep k L f g S) (hO : aOK S) {i : Nat} (hi : i < sC S) (hw : sW S i = 11) (n0 sz : Nat) : Met l yX2_gather wsX2_gather ({ frames := 2, cells := 0, slots := 0, locals := 43 } : Room) (va_Pc [.ref (gN g 0 i), .ref (gA g 1)] (pPre D (tyL k) n0 (va_pl L f) sz)) (va_Qv (fun u => u = va_pl L (va_up f (gN g 2 i) (.inl (k 0, 24, .inl (gatF S (gR g 2) i))))) (pB D (va_pl L f) sz) (va_A (va_pl L f) sz)) 0 0 (va_A (va_pl L f) sz) := by
  obtain ⟨m0, e0⟩ := (hR.2.2.2.2.1 i hi).2.1
  have he : exK (sW S i) = 1 := by
    unfold exK
    repeat' split
    all_goals omega
  rw [he] at e0
  unfold nodeV at e0
  rw [if_neg (show ¬ (sW S i = 12) by omega), if_pos (show sW S i = 11 by omega)] at e0
  unfold gatF
  rw [if_neg (show ¬ (sW S i = 12) by omega), if_pos (show sW S i = 11 by omega)]
  exact kX2_gather l D k L f (gN g 0 i) (sD S i) (gD g i) (gN g 3 i) (zI (sO S i : Int)) (gN g 1 i) (gN g 2 i) (gR g 2 i) (hR.s2 hi).1 (hR.s2 hi).2.1 (hR.s2 hi).2.2.1 (hR.s2 hi).2.2.2.1 m0 e0 (gA g 1) (gA g 2) (gA g 3) (sN S) (sT S) (hR.2.1 1 (by decide)) hR.1.2.1 (hR.2.1 2 (by decide)) hR.1.2.2.1 hO.1 (hR.la_ne (hR.s2 hi) (by omega)) n0 sz
theorem kG3 (l : Launch) (D : va_G) {k : Nat → ClassId} {L : List Nat} {f : Nat → va_E} {g : CG} {S : SA} (hR : cRep k L f g S) (hO : aOK S) {i : Nat} (hi : i < sC S) (hw : sW S i = 10) (n0 sz : Nat) : Met l yX3_gather wsX3_gather ({ frames := 3, cells := 0, slots := 0, locals := 66 } : Room) (va_Pc [.ref (gN g 0 i), .ref (gA g 1)] (pPre D (tyL k) n0 (va_pl L f) sz)) (va_Qv (fun u => u = va_pl L (va_up f (gN g 2 i) (.inl (k 0, 24, .inl (gatF S (gR g 2) i))))) (pB D (va_pl L f) sz) (va_A (va_pl L f) sz)) 0 0 (va_A (va_pl L f) sz) := by
  obtain ⟨m0, e0⟩ := (hR.2.2.2.2.1 i hi).2.1
  obtain ⟨kO, kP⟩ := (hO.2.2.2.2 i hi).2.2.2.2.1 ⟨by omega, by omega⟩
  have hsO : sO S i < sC S := by omega
  have hsP : sP S i < sC S := by omega
  have dB := fun {j : Nat} (h : j < sC S) => hO.dB h
  have he : exK (sW S i) = 2 := by
    unfold exK
    repeat' split
    all_goals omega
  rw [he] at e0
  unfold nodeV at e0
  rw [if_neg (show ¬ (sW S i = 12) by omega), if_neg (show ¬ (sW S i = 11) by omega), if_pos (show sW S i = 10 by omega)] at e0
  unfold gatF
  rw [if_neg (show ¬ (sW S i = 12) by omega), if_neg (show ¬ (sW S i = 11) by omega), if_pos (show sW S i = 10 by omega)]
  exact kX3_gather l D k L f (gN g 0 i) (sD S i) (gD g i) (gN g 3 i) (sG S i) ((hO.2.2.2.2 i hi).2.2.2.2.2.1 hw) (gN g 0 (sO S i)) (sD S (sO S i)) (gD g (sO S i)) (gN g 1 (sO S i)) (gN g 3 (sO S i)) (dB hsO) (hR.2.2.2.2.1 _ hsO).2.1.1 (hR.ex hsO) (gN g 0 (sP S i)) (sD S (sP S i)) (gD g (sP S i)) (gN g 1 (sP S i)) (gN g 3 (sP S i)) (dB hsP) (hR.2.2.2.2.1 _ hsP).2.1.1 (hR.ex hsP) (gN g 1 i) (gN g 2 i) (gR g 2 i) (hR.s2 hi).1 (hR.s2 hi).2.1 (hR.s2 hi).2.2.1 (hR.s2 hi).2.2.2.1 (gN g 2 (sO S i)) (gR g 2 (sO S i)) (hR.s2 hsO).1 (hR.s2 hsO).2.1 (hR.s2 hsO).2.2.1 (hR.s2 hsO).2.2.2.1 (cRep.own_ne (hR.s2 hsO) (hR.s2 hi) (by omega)) (gN g 2 (sP S i)) (gR g 2 (sP S i)) (hR.s2 hsP).1 (hR.s2 hsP).2.1 (hR.s2 hsP).2.2.1 (hR.s2 hsP).2.2.2.1 (cRep.own_ne (hR.s2 hsP) (hR.s2 hi) (by omega)) m0 e0 (gA g 1) n0 sz
theorem kG4 (l : Launch) (D : va_G) {k : Nat → ClassId} {L : List Nat} {f : Nat → va_E} {g : CG} {S : SA} (hR : cRep k L f g S) (hO : aOK S) {i : Nat} (hi : i < sC S) (hw : (sW S i = 13 ∨ sW S i = 14)) (n0 sz : Nat) : Met l yX4_gather wsX4_gather ({ frames := 3, cells := 0, slots := 0, locals := 67 } : Room) (va_Pc [.ref (gN g 0 i), .ref (gA g 1)] (pPre D (tyL k) n0 (va_pl L f) sz)) (va_Qv (fun u => u = va_pl L (va_up f (gN g 2 i) (.inl (k 0, 24, .inl (gatF S (gR g 2) i))))) (pB D (va_pl L f) sz) (va_A (va_pl L f) sz)) 0 0 (va_A (va_pl L f) sz) := by
  obtain ⟨m0, e0⟩ := (hR.2.2.2.2.1 i hi).2.1
  obtain ⟨kO, kP⟩ := (hO.2.2.2.2 i hi).2.2.2.2.1 ⟨by omega, by omega⟩
  have hsO : sO S i < sC S := by omega
  have hsP : sP S i < sC S := by omega
  have dB := fun {j : Nat} (h : j < sC S) => hO.dB h
  have he : exK (sW S i) = 3 := by
    unfold exK
    repeat' split
    all_goals omega
  rw [he] at e0
  unfold nodeV at e0
  rw [if_neg (show ¬ (sW S i = 12) by omega), if_neg (show ¬ (sW S i = 11) by omega), if_neg (show ¬ (sW S i = 10) by omega), if_pos (show (sW S i = 13 ∨ sW S i = 14) by omega)] at e0
  unfold gatF
  rw [if_neg (show ¬ (sW S i = 12) by omega), if_neg (show ¬ (sW S i = 11) by omega), if_neg (show ¬ (sW S i = 10) by omega), if_pos (show (sW S i = 13 ∨ sW S i = 14) by omega)]
  exact kX4_gather l D k L f (gN g 0 i) (sD S i) (gD g i) (gN g 3 i) (decide (sW S i = 14)) (gN g 0 (sO S i)) (sD S (sO S i)) (gD g (sO S i)) (gN g 1 (sO S i)) (gN g 3 (sO S i)) (dB hsO) (hR.2.2.2.2.1 _ hsO).2.1.1 (hR.ex hsO) (gN g 1 i) (gN g 2 i) (gR g 2 i) (hR.s2 hi).1 (hR.s2 hi).2.1 (hR.s2 hi).2.2.1 (hR.s2 hi).2.2.2.1 (gN g 2 (sO S i)) (gR g 2 (sO S i)) (hR.s2 hsO).1 (hR.s2 hsO).2.1 (hR.s2 hsO).2.2.1 (hR.s2 hsO).2.2.2.1 (cRep.own_ne (hR.s2 hsO) (hR.s2 hi) (by omega)) m0 e0 (gA g 1) n0 sz
theorem kG5 (l : Launch) (D : va_G) {k : Nat → ClassId} {L : List Nat} {f : Nat → va_E} {g : CG} {S : SA} (hR : cRep k L f g S) (hO : aOK S) {i : Nat} (hi : i < sC S) (hw : sW S i < 9) (n0 sz : Nat) : Met l yX5_gather wsX5_gather ({ frames := 3, cells := 0, slots := 0, locals := 68 } : Room) (va_Pc [.ref (gN g 0 i), .ref (gA g 1)] (pPre D (tyL k) n0 (va_pl L f) sz)) (va_Qv (fun u => u = va_pl L (va_up f (gN g 2 i) (.inl (k 0, 24, .inl (gatF S (gR g 2) i))))) (pB D (va_pl L f) sz) (va_A (va_pl L f) sz)) 0 0 (va_A (va_pl L f) sz) := by
  obtain ⟨m0, e0⟩ := (hR.2.2.2.2.1 i hi).2.1
  obtain ⟨kO, kP⟩ := (hO.2.2.2.2 i hi).2.2.2.2.1 ⟨by omega, by omega⟩
  have hsO : sO S i < sC S := by omega
  have hsP : sP S i < sC S := by omega
  have dB := fun {j : Nat} (h : j < sC S) => hO.dB h
  have he : exK (sW S i) = 4 := by
    unfold exK
    repeat' split
    all_goals omega
  rw [he] at e0
  unfold nodeV at e0
  rw [if_neg (show ¬ (sW S i = 12) by omega), if_neg (show ¬ (sW S i = 11) by omega), if_neg (show ¬ (sW S i = 10) by omega), if_neg (show ¬ ((sW S i = 13 ∨ sW S i = 14)) by omega), if_neg (show ¬ (sW S i = 9) by omega)] at e0
  unfold gatF
  rw [if_neg (show ¬ (sW S i = 12) by omega), if_neg (show ¬ (sW S i = 11) by omega), if_neg (show ¬ (sW S i = 10) by omega), if_neg (show ¬ ((sW S i = 13 ∨ sW S i = 14)) by omega), if_neg (show ¬ (sW S i = 9) by omega)]
  exact kX5_gather l D k L f (gN g 0 i) (sD S i) (gD g i) (gN g 3 i) (sW S i : Int) (by omega) (gN g 0 (sO S i)) (sD S (sO S i)) (gD g (sO S i)) (gN g 1 (sO S i)) (gN g 3 (sO S i)) (dB hsO) (hR.2.2.2.2.1 _ hsO).2.1.1 (hR.ex hsO) (gN g 0 (sP S i)) (sD S (sP S i)) (gD g (sP S i)) (gN g 1 (sP S i)) (gN g 3 (sP S i)) (dB hsP) (hR.2.2.2.2.1 _ hsP).2.1.1 (hR.ex hsP) (gN g 1 i) (gN g 2 i) (gR g 2 i) (hR.s2 hi).1 (hR.s2 hi).2.1 (hR.s2 hi).2.2.1 (hR.s2 hi).2.2.2.1 (gN g 2 (sO S i)) (gR g 2 (sO S i)) (hR.s2 hsO).1 (hR.s2 hsO).2.1 (hR.s2 hsO).2.2.1 (hR.s2 hsO).2.2.2.1 (cRep.own_ne (hR.s2 hsO) (hR.s2 hi) (by omega)) (gN g 2 (sP S i)) (gR g 2 (sP S i)) (hR.s2 hsP).1 (hR.s2 hsP).2.1 (hR.s2 hsP).2.2.1 (hR.s2 hsP).2.2.2.1 (cRep.own_ne (hR.s2 hsP) (hR.s2 hi) (by omega)) m0 e0 (gA g 1) n0 sz
theorem kG7 (l : Launch) (D : va_G) {k : Nat → ClassId} {L : List Nat} {f : Nat → va_E} {g : CG} {S : SA} (hR : cRep k L f g S) (hO : aOK S) {i : Nat} (hi : i < sC S) (hw : sW S i = 9) (n0 sz : Nat) : Met l yX7_gather wsX7_gather ({ frames := 3, cells := 0, slots := 0, locals := 67 } : Room) (va_Pc [.ref (gN g 0 i), .ref (gA g 1)] (pPre D (tyL k) n0 (va_pl L f) sz)) (va_Qv (fun u => u = va_pl L (va_up f (gN g 2 i) (.inl (k 0, 24, .inl (gatF S (gR g 2) i))))) (pB D (va_pl L f) sz) (va_A (va_pl L f) sz)) 0 0 (va_A (va_pl L f) sz) := by
  obtain ⟨m0, e0⟩ := (hR.2.2.2.2.1 i hi).2.1
  obtain ⟨kO, kP⟩ := (hO.2.2.2.2 i hi).2.2.2.2.1 ⟨by omega, by omega⟩
  have hsO : sO S i < sC S := by omega
  have hsP : sP S i < sC S := by omega
  have dB := fun {j : Nat} (h : j < sC S) => hO.dB h
  have he : exK (sW S i) = 6 := by
    unfold exK
    repeat' split
    all_goals omega
  rw [he] at e0
  unfold nodeV at e0
  rw [if_neg (show ¬ (sW S i = 12) by omega), if_neg (show ¬ (sW S i = 11) by omega), if_neg (show ¬ (sW S i = 10) by omega), if_neg (show ¬ ((sW S i = 13 ∨ sW S i = 14)) by omega), if_pos (show sW S i = 9 by omega)] at e0
  unfold gatF
  rw [if_neg (show ¬ (sW S i = 12) by omega), if_neg (show ¬ (sW S i = 11) by omega), if_neg (show ¬ (sW S i = 10) by omega), if_neg (show ¬ ((sW S i = 13 ∨ sW S i = 14)) by omega), if_pos (show sW S i = 9 by omega)]
  exact kX7_gather l D k L f (gN g 0 i) (sD S i) (gD g i) (gN g 3 i) (gN g 5 i) (gN g 0 (sO S i)) (sD S (sO S i)) (gD g (sO S i)) (gN g 1 (sO S i)) (gN g 3 (sO S i)) (dB hsO) (hR.2.2.2.2.1 _ hsO).2.1.1 (hR.ex hsO) (gN g 0 (sP S i)) (sD S (sP S i)) (gD g (sP S i)) (gN g 1 (sP S i)) (gN g 3 (sP S i)) (dB hsP) (hR.2.2.2.2.1 _ hsP).2.1.1 (hR.ex hsP) (gN g 1 i) (gN g 2 i) (gR g 2 i) (hR.s2 hi).1 (hR.s2 hi).2.1 (hR.s2 hi).2.2.1 (hR.s2 hi).2.2.2.1 (gN g 2 (sO S i)) (gR g 2 (sO S i)) (hR.s2 hsO).1 (hR.s2 hsO).2.1 (hR.s2 hsO).2.2.1 (hR.s2 hsO).2.2.2.1 (cRep.own_ne (hR.s2 hsO) (hR.s2 hi) (by omega)) (gN g 2 (sP S i)) (gR g 2 (sP S i)) (hR.s2 hsP).1 (hR.s2 hsP).2.1 (hR.s2 hsP).2.2.1 (hR.s2 hsP).2.2.2.1 (cRep.own_ne (hR.s2 hsP) (hR.s2 hi) (by omega)) m0 e0 (gA g 1) n0 sz
