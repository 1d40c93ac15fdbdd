/-- what asking says of one region of one node -/
def askP (S : SA) (G : Nat → Nat → Int32) (J : Nat → Int32) (i : Nat) (z w : Int) : Bool :=
  if sW S i = 12 then hasB (sR S (sO S i)) z w
  else if sW S i = 11 then ltB (sT S) (sN S) (zI (sO S i : Int)) z w
  else if sW S i = 10 then ijB (G (sO S i)) (G (sP S i)) (sG S i) z w
  else if sW S i = 13 ∨ sW S i = 14 then onB (decide (sW S i = 14)) (G (sO S i)) z w
  else if sW S i = 9 then spB J z w
  else paB (sW S i : Int) (G (sO S i)) (G (sP S i)) z w
def askR (S : SA) (G : Nat → Nat → Int32) (i : Nat) (J X : Nat → Int32) : Prop := (sW S i = 9 → aeP (fun z w => ijB (G (sO S i)) (G (sP S i)) 24 z w) (sN S) J) ∧ aeP (askP S G J i) (sN S) X
theorem askP_cong {S : SA} (hO : aOK S) {i : Nat} (hi : i < sC S) {G G2 : Nat → Nat → Int32} (J : Nat → Int32) (h : ∀ j, j < i → G2 j = G j) : askP S G2 J i = askP S G J i := by
  funext z w
  unfold askP
  by_cases c1 : sW S i = 12
  · rw [if_pos c1, if_pos c1]
  · by_cases c2 : sW S i = 11
    · rw [if_neg c1, if_neg c1, if_pos c2, if_pos c2]
    · obtain ⟨a, b⟩ := (hO.2.2.2.2 i hi).2.2.2.2.1 ⟨c2, c1⟩
      rw [h _ a, h _ b]
theorem askR_cong {S : SA} (hO : aOK S) {i : Nat} (hi : i < sC S) {G G2 : Nat → Nat → Int32} {J X : Nat → Int32} (h : ∀ j, j < i → G2 j = G j) (hr : askR S G i J X) : askR S G2 i J X := by
  refine ⟨fun h9 => ?_, by rw [askP_cong hO hi J h]; exact hr.2⟩
  obtain ⟨a, b⟩ := (hO.2.2.2.2 i hi).2.2.2.2.1 ⟨by omega, by omega⟩
  rw [h _ a, h _ b]
  exact hr.1 h9
theorem exK_i0 {w : Nat} (h : exK w = 0) : w = 12 := by
  unfold exK at h
  repeat' split at h
  all_goals omega
theorem exK_i1 {w : Nat} (h : exK w = 1) : w = 11 := by
  unfold exK at h
  repeat' split at h
  all_goals omega
theorem exK_i2 {w : Nat} (h : exK w = 2) : w = 10 := by
  unfold exK at h
  repeat' split at h
  all_goals omega
theorem exK_i3 {w : Nat} (h : exK w = 3) : w = 13 ∨ w = 14 := by
  unfold exK at h
  repeat' split at h
  all_goals omega
theorem exK_i4 {w : Nat} (hw : w ≤ 14) (h : exK w = 4) : w < 9 := by
  unfold exK at h
  repeat' split at h
  all_goals omega
theorem exK_i6 {w : Nat} (h : exK w = 6) : w = 9 := by
  unfold exK at h
  repeat' split at h
  all_goals omega
theorem kO1 (l : Launch) (D : va_G) {k : Nat → ClassId} {L : List Nat} {f : Nat → va_E} {g : CG} {S : SA} (hR : cRep k L f g S) (hO : aOK S) {i : Nat} (hi : i < sC S) (hw : sW S i = 12) (z w : Int) (hz : 0 ≤ z ∧ z < w) (hw9 : w ≤ 24) : Met l yX1_isOne wsX1_isOne ({ frames := 1, cells := 0, slots := 0, locals := 22 } : Room) (va_Pc [.ref (gN g 0 i), .ref (gA g 1), .int (zI z), .int (zI w)] (rPre D (tyL k) (va_pl L f))) (vp_Si (fun r9 => r9 = bI (askP S (gR g 4) (gR g 6 i) i z w))) 0 0 (fun _ => False) := by
  obtain ⟨m0, e0⟩ := (hR.2.2.2.2.1 i hi).2.1
  have hk := (hO.2.2.2.2 i hi).2.2.2.1 hw
  have he : exK (sW S i) = 0 := by
    unfold exK
    repeat' split
    all_goals omega
  rw [he] at e0
  unfold nodeV at e0
  rw [if_pos (show sW S i = 12 by omega)] at e0
  unfold askP
  rw [if_pos (show sW S i = 12 by omega)]
  exact kX1_isOne l D k L f (gN g 0 i) (sD S i) (gD g i) (gN g 1 i) (gN g 3 i) (gA g (5 + sO S i)) (gA g (9 + sO S i)) (sR S (sO S i)) (hR.2.2.2.1 (sO S i) hk).2.1 (hR.2.2.2.1 (sO S i) hk).2.2.1 (hR.2.2.2.1 (sO S i) hk).2.2.2.1 (hR.2.2.2.1 (sO S i) hk).2.2.2.2.1 m0 e0 (gA g 1) z w hz hw9
theorem kO2 (l : Launch) (D : va_G) {k : Nat → ClassId} {L : List Nat} {f : Nat → va_E} {g : CG} {S : SA} (hR : cRep k L f g S) (hO : aOK S) {i : Nat} (hi : i < sC S) (hw : sW S i = 11) (z w : Int) (hz : 0 ≤ z ∧ z < w) (hw9 : w ≤ 24) : Met l yX2_isOne wsX2_isOne ({ frames := 2, cells := 0, slots := 0, locals := 43 } : Room) (va_Pc [.ref (gN g 0 i), .ref (gA g 1), .int (zI z), .int (zI w)] (rPre D (tyL k) (va_pl L f))) (vp_Si (fun r9 => r9 = bI (askP S (gR g 4) (gR g 6 i) i z w))) 0 0 (fun _ => False) := by
  obtain ⟨m0, e0⟩ := (hR.2.2.2.2.1 i hi).2.1
  have he : exK (sW S i) = 1 := by
    unfold exK
    repeat' split
    all_goals omega
  rw [he] at e0
  unfold nodeV at e0
  rw [if_neg (show ¬ (sW S i = 12) by omega), if_pos (show sW S i = 11 by omega)] at e0
  unfold askP
  rw [if_neg (show ¬ (sW S i = 12) by omega), if_pos (show sW S i = 11 by omega)]
  exact kX2_isOne l D k L f (gN g 0 i) (sD S i) (gD g i) (gN g 1 i) (gN g 3 i) (zI (sO S i : Int)) (gA g 1) (gA g 2) (gA g 3) (sN S) (sT S) (hR.2.1 1 (by decide)) hR.1.2.1 (hR.2.1 2 (by decide)) hR.1.2.2.1 hO.1 m0 e0 z w hz hw9
theorem kO3 (l : Launch) (D : va_G) {k : Nat → ClassId} {L : List Nat} {f : Nat → va_E} {g : CG} {S : SA} (hR : cRep k L f g S) (hO : aOK S) {i : Nat} (hi : i < sC S) (hw : sW S i = 10) (z w : Int) (hz : 0 ≤ z ∧ z < w) (hw9 : w ≤ 24) : Met l yX3_isOne wsX3_isOne ({ frames := 3, cells := 0, slots := 0, locals := 75 } : Room) (va_Pc [.ref (gN g 0 i), .ref (gA g 1), .int (zI z), .int (zI w)] (rPre D (tyL k) (va_pl L f))) (vp_Si (fun r9 => r9 = bI (askP S (gR g 4) (gR g 6 i) i z w))) 0 0 (fun _ => False) := by
  obtain ⟨m0, e0⟩ := (hR.2.2.2.2.1 i hi).2.1
  obtain ⟨kO, kP⟩ := (hO.2.2.2.2 i hi).2.2.2.2.1 ⟨by omega, by omega⟩
  have hsO : sO S i < sC S := by omega
  have hsP : sP S i < sC S := by omega
  have dB := fun {j : Nat} (h : j < sC S) => hO.dB h
  have he : exK (sW S i) = 2 := by
    unfold exK
    repeat' split
    all_goals omega
  rw [he] at e0
  unfold nodeV at e0
  rw [if_neg (show ¬ (sW S i = 12) by omega), if_neg (show ¬ (sW S i = 11) by omega), if_pos (show sW S i = 10 by omega)] at e0
  unfold askP
  rw [if_neg (show ¬ (sW S i = 12) by omega), if_neg (show ¬ (sW S i = 11) by omega), if_pos (show sW S i = 10 by omega)]
  exact kX3_isOne l D k L f (gN g 0 i) (sD S i) (gD g i) (gN g 1 i) (gN g 3 i) (sG S i) ((hO.2.2.2.2 i hi).2.2.2.2.2.1 hw) (gN g 0 (sO S i)) (sD S (sO S i)) (gD g (sO S i)) (gN g 1 (sO S i)) (gN g 3 (sO S i)) (dB hsO) (hR.2.2.2.2.1 _ hsO).2.1.1 (hR.ex hsO) (gN g 0 (sP S i)) (sD S (sP S i)) (gD g (sP S i)) (gN g 1 (sP S i)) (gN g 3 (sP S i)) (dB hsP) (hR.2.2.2.2.1 _ hsP).2.1.1 (hR.ex hsP) (gN g 4 (sO S i)) (gR g 4 (sO S i)) (hR.s4 hsO).1 (hR.s4 hsO).2.1 (hR.s4 hsO).2.2.1 (hR.s4 hsO).2.2.2.1 (gN g 4 (sP S i)) (gR g 4 (sP S i)) (hR.s4 hsP).1 (hR.s4 hsP).2.1 (hR.s4 hsP).2.2.1 (hR.s4 hsP).2.2.2.1 m0 e0 (gA g 1) z w hz hw9
theorem kO4 (l : Launch) (D : va_G) {k : Nat → ClassId} {L : List Nat} {f : Nat → va_E} {g : CG} {S : SA} (hR : cRep k L f g S) (hO : aOK S) {i : Nat} (hi : i < sC S) (hw : (sW S i = 13 ∨ sW S i = 14)) (z w : Int) (hz : 0 ≤ z ∧ z < w) (hw9 : w ≤ 24) : Met l yX4_isOne wsX4_isOne ({ frames := 3, cells := 0, slots := 0, locals := 71 } : Room) (va_Pc [.ref (gN g 0 i), .ref (gA g 1), .int (zI z), .int (zI w)] (rPre D (tyL k) (va_pl L f))) (vp_Si (fun r9 => r9 = bI (askP S (gR g 4) (gR g 6 i) i z w))) 0 0 (fun _ => False) := by
  obtain ⟨m0, e0⟩ := (hR.2.2.2.2.1 i hi).2.1
  obtain ⟨kO, kP⟩ := (hO.2.2.2.2 i hi).2.2.2.2.1 ⟨by omega, by omega⟩
  have hsO : sO S i < sC S := by omega
  have hsP : sP S i < sC S := by omega
  have dB := fun {j : Nat} (h : j < sC S) => hO.dB h
  have he : exK (sW S i) = 3 := by
    unfold exK
    repeat' split
    all_goals omega
  rw [he] at e0
  unfold nodeV at e0
  rw [if_neg (show ¬ (sW S i = 12) by omega), if_neg (show ¬ (sW S i = 11) by omega), if_neg (show ¬ (sW S i = 10) by omega), if_pos (show (sW S i = 13 ∨ sW S i = 14) by omega)] at e0
  unfold askP
  rw [if_neg (show ¬ (sW S i = 12) by omega), if_neg (show ¬ (sW S i = 11) by omega), if_neg (show ¬ (sW S i = 10) by omega), if_pos (show (sW S i = 13 ∨ sW S i = 14) by omega)]
  exact kX4_isOne l D k L f (gN g 0 i) (sD S i) (gD g i) (gN g 1 i) (gN g 3 i) (decide (sW S i = 14)) (gN g 0 (sO S i)) (sD S (sO S i)) (gD g (sO S i)) (gN g 1 (sO S i)) (gN g 3 (sO S i)) (dB hsO) (hR.2.2.2.2.1 _ hsO).2.1.1 (hR.ex hsO) (gN g 4 (sO S i)) (gR g 4 (sO S i)) (hR.s4 hsO).1 (hR.s4 hsO).2.1 (hR.s4 hsO).2.2.1 (hR.s4 hsO).2.2.2.1 m0 e0 (gA g 1) z w hz hw9
theorem kO5 (l : Launch) (D : va_G) {k : Nat → ClassId} {L : List Nat} {f : Nat → va_E} {g : CG} {S : SA} (hR : cRep k L f g S) (hO : aOK S) {i : Nat} (hi : i < sC S) (hw : sW S i < 9) (z w : Int) (hz : 0 ≤ z ∧ z < w) (hw9 : w ≤ 24) : Met l yX5_isOne wsX5_isOne ({ frames := 3, cells := 0, slots := 0, locals := 71 } : Room) (va_Pc [.ref (gN g 0 i), .ref (gA g 1), .int (zI z), .int (zI w)] (rPre D (tyL k) (va_pl L f))) (vp_Si (fun r9 => r9 = bI (askP S (gR g 4) (gR g 6 i) i z w))) 0 0 (fun _ => False) := by
  obtain ⟨m0, e0⟩ := (hR.2.2.2.2.1 i hi).2.1
  obtain ⟨kO, kP⟩ := (hO.2.2.2.2 i hi).2.2.2.2.1 ⟨by omega, by omega⟩
  have hsO : sO S i < sC S := by omega
  have hsP : sP S i < sC S := by omega
  have dB := fun {j : Nat} (h : j < sC S) => hO.dB h
  have he : exK (sW S i) = 4 := by
    unfold exK
    repeat' split
    all_goals omega
  rw [he] at e0
  unfold nodeV at e0
  rw [if_neg (show ¬ (sW S i = 12) by omega), if_neg (show ¬ (sW S i = 11) by omega), if_neg (show ¬ (sW S i = 10) by omega), if_neg (show ¬ ((sW S i = 13 ∨ sW S i = 14)) by omega), if_neg (show ¬ (sW S i = 9) by omega)] at e0
  unfold askP
  rw [if_neg (show ¬ (sW S i = 12) by omega), if_neg (show ¬ (sW S i = 11) by omega), if_neg (show ¬ (sW S i = 10) by omega), if_neg (show ¬ ((sW S i = 13 ∨ sW S i = 14)) by omega), if_neg (show ¬ (sW S i = 9) by omega)]
  exact kX5_isOne l D k L f (gN g 0 i) (sD S i) (gD g i) (gN g 1 i) (gN g 3 i) (sW S i : Int) (by omega) (gN g 0 (sO S i)) (sD S (sO S i)) (gD g (sO S i)) (gN g 1 (sO S i)) (gN g 3 (sO S i)) (dB hsO) (hR.2.2.2.2.1 _ hsO).2.1.1 (hR.ex hsO) (gN g 0 (sP S i)) (sD S (sP S i)) (gD g (sP S i)) (gN g 1 (sP S i)) (gN g 3 (sP S i)) (dB hsP) (hR.2.2.2.2.1 _ hsP).2.1.1 (hR.ex hsP) (gN g 4 (sO S i)) (gR g 4 (sO S i)) (hR.s4 hsO).1 (hR.s4 hsO).2.1 (hR.s4 hsO).2.2.1 (hR.s4 hsO).2.2.2.1 (gN g 4 (sP S i)) (gR g 4 (sP S i)) (hR.s4 hsP).1 (hR.s4 hsP).2.1 (hR.s4 hsP).2.2.1 (hR.s4 hsP).2.2.2.1 m0 e0 (gA g 1) z w hz hw9
theorem kO7 (l : Launch) (D : va_G) {k : Nat → ClassId} {L : List Nat} {f : Nat → va_E} {g : CG} {S : SA} (hR : cRep k L f g S) (hO : aOK S) {i : Nat} (hi : i < sC S) (hw : sW S i = 9) (z w : Int) (hz : 0 ≤ z ∧ z < w) (hw9 : w ≤ 24) : Met l yX7_isOne wsX7_isOne ({ frames := 3, cells := 0, slots := 0, locals := 71 } : Room) (va_Pc [.ref (gN g 0 i), .ref (gA g 1), .int (zI z), .int (zI w)] (rPre D (tyL k) (va_pl L f))) (vp_Si (fun r9 => r9 = bI (askP S (gR g 4) (gR g 6 i) i z w))) 0 0 (fun _ => False) := by
  obtain ⟨m0, e0⟩ := (hR.2.2.2.2.1 i hi).2.1
  obtain ⟨kO, kP⟩ := (hO.2.2.2.2 i hi).2.2.2.2.1 ⟨by omega, by omega⟩
  have hsO : sO S i < sC S := by omega
  have hsP : sP S i < sC S := by omega
  have dB := fun {j : Nat} (h : j < sC S) => hO.dB h
  have he : exK (sW S i) = 6 := by
    unfold exK
    repeat' split
    all_goals omega
  rw [he] at e0
  unfold nodeV at e0
  rw [if_neg (show ¬ (sW S i = 12) by omega), if_neg (show ¬ (sW S i = 11) by omega), if_neg (show ¬ (sW S i = 10) by omega), if_neg (show ¬ ((sW S i = 13 ∨ sW S i = 14)) by omega), if_pos (show sW S i = 9 by omega)] at e0
  unfold askP
  rw [if_neg (show ¬ (sW S i = 12) by omega), if_neg (show ¬ (sW S i = 11) by omega), if_neg (show ¬ (sW S i = 10) by omega), if_neg (show ¬ ((sW S i = 13 ∨ sW S i = 14)) by omega), if_pos (show sW S i = 9 by omega)]
  exact kX7_isOne l D k L f (gN g 0 i) (sD S i) (gD g i) (gN g 1 i) (gN g 3 i) (gN g 5 i) (gN g 6 i) (gR g 6 i) (gN g 0 (sO S i)) (gN g 0 (sP S i)) (hR.s6 hi hw).1 (hR.s6 hi hw).2.1 (hR.s6 hi hw).2.2.1 (hR.s6 hi hw).2.2.2.1 m0 e0 (gA g 1) z w hz hw9
theorem oneM (l : Launch) (D : va_G) {k : Nat → ClassId} {L : List Nat} {f : Nat → va_E} {g : CG} {S : SA} (hR : cRep k L f g S) (hO : aOK S) {i : Nat} (hi : i < sC S) (z w : Int) (hz : 0 ≤ z ∧ z < w) (hw9 : w ≤ 24) : isOneM l D k L f (exK (sW S i)) (gN g 0 i) (gA g 1) z w (askP S (gR g 4) (gR g 6 i) i z w) := ⟨fun h => kO1 l D hR hO hi (exK_i0 h) z w hz hw9, fun h => kO2 l D hR hO hi (exK_i1 h) z w hz hw9, fun h => kO3 l D hR hO hi (exK_i2 h) z w hz hw9, fun h => kO4 l D hR hO hi (exK_i3 h) z w hz hw9, fun h => kO5 l D hR hO hi (exK_i4 (hO.2.2.2.2 i hi).1 h) z w hz hw9, fun h => kO7 l D hR hO hi (exK_i6 h) z w hz hw9⟩
theorem kA0 (l : Launch) (D : va_G) {k : Nat → ClassId} {L : List Nat} {f : Nat → va_E} {g : CG} {S : SA} (hR : cRep k L f g S) (hO : aOK S) {i : Nat} (hi : i < sC S) (n0 sz : Nat) : Met l yX0_askEach wsX0_askEach ({ frames := 4, cells := 0, slots := 0, locals := 98 } : Room) (va_Pc [.ref (gN g 0 i), .ref (gA g 1)] (pPre D (tyL k) n0 (va_pl L f) sz)) (va_Qv (fun u => ∃ X : Nat → Int32, aeP (askP S (gR g 4) (gR g 6 i) i) (sN S) X ∧ u = va_pl L (va_up f (gN g 4 i) (.inl (k 0, 24, .inl X)))) (pB D (va_pl L f) sz) (va_A (va_pl L f) sz)) 0 0 (va_A (va_pl L f) sz) := by
  obtain ⟨m0, e0⟩ := (hR.2.2.2.2.1 i hi).2.1
  have s := hR.s4 hi
  refine kX0_askEach l D k L f (gN g 0 i) (exK (sW S i)) (nodeV g S i) (zI (sD S i)) (gD g i) (gN g 1 i) (gN g 3 i) (gN g 4 i) (gR g 4 i) (exK_c _) m0 e0 s.1 s.2.1 s.2.2.1 s.2.2.2.1 (gA g 1) (gA g 2) (gA g 3) (sN S) (sT S) (hR.2.1 1 (by decide)) hR.1.2.1 (hR.2.1 2 (by decide)) hR.1.2.2.1 hO.1 (hR.la_ne s (by omega)) (askP S (gR g 4) (gR g 6 i) i) (fun G z w h1 h2 h3 => ?_) n0 sz
  have hR2 : cRep k L f (setRw g 4 (gR g 4)) S := by rw [setRw_id]; exact hR
  have h4 := oneM l D (hR2.set hi (Or.inr (Or.inl rfl)) G) hO hi z w ⟨h1, h2⟩ h3
  have e : askP S (gR (setRw g 4 (fun j => if j = i then G else gR g 4 j)) 4) (gR (setRw g 4 (fun j => if j = i then G else gR g 4 j)) 6 i) i = askP S (gR g 4) (gR g 6 i) i := by
    show askP S (fun j => if j = i then G else gR g 4 j) (gR g 6 i) i = _
    exact askP_cong hO hi _ (fun j hj => if_neg (by omega))
  rw [e] at h4
  exact h4
theorem kA7 (l : Launch) (D : va_G) {k : Nat → ClassId} {L : List Nat} {f : Nat → va_E} {g : CG} {S : SA} (hR : cRep k L f g S) (hO : aOK S) {i : Nat} (hi : i < sC S) (hw : sW S i = 9) (n0 sz : Nat) : Met l yX7_askEach wsX7_askEach ({ frames := 5, cells := 0, slots := 0, locals := 121 } : Room) (va_Pc [.ref (gN g 0 i), .ref (gA g 1)] (pPre D (tyL k) n0 (va_pl L f) sz)) (va_Qv (fun u => ∃ J X : Nat → Int32, aeP (fun z9 w9 => ijB (gR g 4 (sO S i)) (gR g 4 (sP S i)) 24 z9 w9) (sN S) J ∧ aeP (spB J) (sN S) X ∧ u = va_pl L (va_up (va_up f (gN g 6 i) (.inl (k 0, 24, .inl J))) (gN g 4 i) (.inl (k 0, 24, .inl X)))) (pB D (va_pl L f) sz) (va_A (va_pl L f) sz)) 0 0 (va_A (va_pl L f) sz) := by
  obtain ⟨m0, e0⟩ := (hR.2.2.2.2.1 i hi).2.1
  obtain ⟨kO, kP⟩ := (hO.2.2.2.2 i hi).2.2.2.2.1 ⟨by omega, by omega⟩
  have hsO : sO S i < sC S := by omega
  have hsP : sP S i < sC S := by omega
  have dB := fun {j : Nat} (h : j < sC S) => hO.dB h
  have he : exK (sW S i) = 6 := by
    unfold exK
    repeat' split
    all_goals omega
  rw [he] at e0
  unfold nodeV at e0
  rw [if_neg (show ¬ (sW S i = 12) by omega), if_neg (show ¬ (sW S i = 11) by omega), if_neg (show ¬ (sW S i = 10) by omega), if_neg (show ¬ ((sW S i = 13 ∨ sW S i = 14)) by omega), if_pos (show sW S i = 9 by omega)] at e0
  have s := hR.s4 hi
  have t := hR.s6 hi hw
  exact kX7_askEach l D k L f (gN g 0 i) (sD S i) (gD g i) (gN g 1 i) (gN g 3 i) (gN g 5 i) (gN g 4 i) (gN g 6 i) (gR g 4 i) (gR g 6 i) (gN g 0 (sO S i)) (sD S (sO S i)) (gD g (sO S i)) (gN g 1 (sO S i)) (gN g 3 (sO S i)) (dB hsO) (hR.2.2.2.2.1 _ hsO).2.1.1 (hR.ex hsO) (gN g 0 (sP S i)) (sD S (sP S i)) (gD g (sP S i)) (gN g 1 (sP S i)) (gN g 3 (sP S i)) (dB hsP) (hR.2.2.2.2.1 _ hsP).2.1.1 (hR.ex hsP) (gN g 4 (sO S i)) (gR g 4 (sO S i)) (hR.s4 hsO).1 (hR.s4 hsO).2.1 (hR.s4 hsO).2.2.1 (hR.s4 hsO).2.2.2.1 (gN g 4 (sP S i)) (gR g 4 (sP S i)) (hR.s4 hsP).1 (hR.s4 hsP).2.1 (hR.s4 hsP).2.2.1 (hR.s4 hsP).2.2.2.1 m0 e0 s.1 s.2.1 s.2.2.1 s.2.2.2.1 t.1 t.2.1 t.2.2.1 t.2.2.2.1 (gA g 1) (gA g 2) (gA g 3) (sN S) (sT S) (hR.2.1 1 (by decide)) hR.1.2.1 (hR.2.1 2 (by decide)) hR.1.2.2.1 hO.1 (hR.la_ne s (by omega)) (hR.la_ne t (by omega)) (cRep.own_ne s t (by omega)) (cRep.own_ne (hR.s4 hsO) t (by omega)) (cRep.own_ne (hR.s4 hsP) t (by omega)) (cRep.own_ne (hR.s4 hsO) s (by omega)) (cRep.own_ne (hR.s4 hsP) s (by omega)) n0 sz
