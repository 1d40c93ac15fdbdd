theorem gatN_no {S : SA} {nd : Int32} {G : Nat → Nat → Int32} {m : Nat} (h : ¬ (m < sC S ∧ bt nd m = true)) : gatN S nd G (m + 1) = gatN S nd G m := if_neg h
theorem gatN_yes {S : SA} {nd : Int32} {G : Nat → Nat → Int32} {m : Nat} (h1 : m < sC S) (h2 : bt nd m = true) : gatN S nd G (m + 1) = fun j => if j = m then gatF S (gatN S nd G m) m else gatN S nd G m j := if_pos ⟨h1, h2⟩
def askI (S : SA) (nd : Int32) (m : Nat) (X J : Nat → Nat → Int32) : Prop := ∀ j, j < m → j < sC S → bt nd j = true → askR S X j (J j) (X j)
theorem askI_0 (S : SA) (nd : Int32) (X J : Nat → Nat → Int32) : askI S nd 0 X J := fun j h => absurd h (Nat.not_lt_zero j)
theorem askI_no {S : SA} {nd : Int32} {m : Nat} {X J : Nat → Nat → Int32} (h : ¬ (m < sC S ∧ bt nd m = true)) (hI : askI S nd m X J) : askI S nd (m + 1) X J := fun j h1 h2 h3 => by
  by_cases e : j = m
  · exact absurd ⟨by rw [← e]; exact h2, by rw [← e]; exact h3⟩ h
  · exact hI j (by omega) h2 h3
theorem askI_y9 {S : SA} (hO : aOK S) {nd : Int32} {m : Nat} {X J : Nat → Nat → Int32} {Xm Jm : Nat → Int32} (hI : askI S nd m X J) (hr : askR S X m Jm Xm) : askI S nd (m + 1) (fun j => if j = m then Xm else X j) (fun j => if j = m then Jm else J j) := fun j h1 h2 h3 => by
  by_cases e : j = m
  · subst e
    show askR S (fun q => if q = j then Xm else X q) j (if j = j then Jm else J j) (if j = j then Xm else X j)
    rw [if_pos rfl, if_pos rfl]
    exact askR_cong hO h2 (fun q hq => if_neg (by omega)) hr
  · show askR S (fun q => if q = m then Xm else X q) j (if j = m then Jm else J j) (if j = m then Xm else X j)
    rw [if_neg e, if_neg e]
    exact askR_cong hO h2 (fun q hq => if_neg (by omega)) (hI j (by omega) h2 h3)
theorem askI_y0 {S : SA} (hO : aOK S) {nd : Int32} {m : Nat} {X J : Nat → Nat → Int32} {Xm : Nat → Int32} (hI : askI S nd m X J) (hw : sW S m ≠ 9) (hr : aeP (askP S X (J m) m) (sN S) Xm) : askI S nd (m + 1) (fun j => if j = m then Xm else X j) J := by
  have h := askI_y9 hO hI (show askR S X m (J m) Xm from ⟨fun h9 => absurd h9 hw, hr⟩)
  have e : (fun j => if j = m then J m else J j) = J := funext fun j => by
    by_cases e : j = m
    · rw [if_pos e, e]
    · rw [if_neg e]
  rw [e] at h
  exact h
theorem askP_9 {S : SA} {X : Nat → Nat → Int32} {J : Nat → Int32} {i : Nat} (hw : sW S i = 9) : askP S X J i = spB J := by
  funext z w
  unfold askP
  rw [if_neg (by omega), if_neg (by omega), if_neg (by omega), if_neg (by omega), if_pos hw]
theorem setRw_comm (g : CG) (X J : Nat → Nat → Int32) : setRw (setRw g 6 J) 4 X = setRw (setRw g 4 X) 6 J := by
  have : (fun r9 => if r9 = 4 then X else (fun r9 => if r9 = 6 then J else gR g r9) r9) = (fun r9 => if r9 = 6 then J else (fun r9 => if r9 = 4 then X else gR g r9) r9) := funext fun r9 => by
    by_cases h : r9 = 4
    · subst h; rfl
    · show (if r9 = 4 then X else if r9 = 6 then J else gR g r9) = (if r9 = 6 then J else if r9 = 4 then X else gR g r9)
      rw [if_neg h, if_neg h]
  exact congrArg (fun x => (gA g, gN g, gM g, gE g, gO g, gD g, x)) this
theorem cRep.set7 {k : Nat → ClassId} {L : List Nat} {F : Nat → va_E} {g : CG} {S : SA} {X J : Nat → Nat → Int32} (h : cRep k L F (setRw (setRw g 6 J) 4 X) S) {m : Nat} (hm : m < sC S) (hw : sW S m = 9) (Jm Xm : Nat → Int32) : cRep k L (va_up (va_up F (gN g 6 m) (.inl (k 0, 24, .inl Jm))) (gN g 4 m) (.inl (k 0, 24, .inl Xm))) (setRw (setRw g 6 (fun j => if j = m then Jm else J j)) 4 (fun j => if j = m then Xm else X j)) S := by
  rw [setRw_comm] at h
  have h1 := h.set hm (Or.inr (Or.inr ⟨rfl, hw⟩)) Jm
  rw [← setRw_comm] at h1
  exact h1.set hm (Or.inr (Or.inl rfl)) Xm
theorem setRw_id2 (g : CG) : setRw (setRw g 6 (gR g 6)) 4 (gR g 4) = g := by rw [setRw_id g 6, setRw_id g 4]
