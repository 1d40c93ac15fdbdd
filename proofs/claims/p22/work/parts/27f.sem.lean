/-! rows that tell the same set are the same; what is counted looks at the 24 rows alone -/
theorem Rp.eq {r1 r2 : Nat → Int32} {P : Nat → Nat → Prop} (h1 : Rp r1 P) (h2 : Rp r2 P) : ∀ z, z < 24 → r1 z = r2 z := fun z hz => b_ext fun t ht => by
  have a := h1 z hz t ht
  have b := h2 z hz t ht
  cases e : bt (r1 z) t with
  | false =>
    cases e2 : bt (r2 z) t with
    | false => rfl
    | true => exact absurd (a.mpr (b.mp e2)) (by rw [e]; decide)
  | true => exact (b.mpr (a.mp e)).symm
theorem row_cong {r1 r2 : Nat → Int32} (h : ∀ z, z < 24 → r1 z = r2 z) (z : Int) : rowAt r1 z = rowAt r2 z := by
  by_cases c : 0 ≤ z ∧ z < 24
  · rw [rowAt_in c, rowAt_in c, h _ (by omega)]
  · rw [rowAt_out c, rowAt_out c]
theorem has_cong {r1 r2 : Nat → Int32} (h : ∀ z, z < 24 → r1 z = r2 z) (z w : Int) : hasB r1 z w = hasB r2 z w := by
  by_cases c : 0 ≤ z ∧ z < 24 ∧ z < w ∧ w ≤ 24
  · unfold hasB
    rw [h _ (by omega)]
  · rw [hasB_f1 c, hasB_f1 c]
theorem lin_cong {r1 r2 : Nat → Int32} (h : ∀ z, z < 24 → r1 z = r2 z) : linB r1 = linB r2 := funext fun q => has_cong h _ _
theorem sm_cong {f1 f2 : Nat → Nat} : ∀ {n : Nat}, (∀ j, j < n → f1 j = f2 j) → fb_sm f1 n = fb_sm f2 n
  | 0, _ => rfl
  | n + 1, h => by
    show fb_sm f1 n + f1 n = fb_sm f2 n + f2 n
    rw [sm_cong (fun j hj => h j (by omega)), h n (by omega)]
theorem size_cong {r1 r2 : Nat → Int32} (h : ∀ z, z < 24 → r1 z = r2 z) : sizeR r1 = sizeR r2 := sm_cong fun j hj => by rw [h j hj]
theorem ov_cong {r1 r2 : Nat → Int32} (h : ∀ z, z < 24 → r1 z = r2 z) (z : Int) : ovN r1 z = ovN r2 z := sm_cong fun j _ => by rw [row_cong h]
theorem cov_cong {r1 r2 : Nat → Int32} (h : ∀ z, z < 24 → r1 z = r2 z) : covN r1 = covN r2 := by
  unfold covN
  rw [show (fun j : Nat => decide (0 < ovN r1 (j : Int))) = (fun j : Nat => decide (0 < ovN r2 (j : Int))) from funext fun j => by rw [ov_cong h]]
theorem dep_cong {r1 r2 : Nat → Int32} (h : ∀ z, z < 24 → r1 z = r2 z) : depN r1 = depN r2 := by
  unfold depN
  rw [show (fun j : Nat => ovN r1 (j : Int)) = (fun j : Nat => ovN r2 (j : Int)) from funext fun j => ov_cong h _]
theorem lon_cong {r1 r2 : Nat → Int32} (h : ∀ z, z < 24 → r1 z = r2 z) : lonI r1 = lonI r2 := by
  unfold lonI
  rw [show (fun j : Nat => (hiE (rowAt r1 (j : Int)) 24 : Int) - (j : Int)) = (fun j : Nat => (hiE (rowAt r2 (j : Int)) 24 : Int) - (j : Int)) from funext fun j => by rw [row_cong h]]
/-- the rows of a node after gathering, and after asking -/
theorem gat_rows {k : Nat → ClassId} {L : List Nat} {f : Nat → va_E} {g : CG} {S : SA} (hR : cRep k L f g S) (hO : aOK S) {i : Nat} (hi : i < sC S) : Rp (gatN S (gD g i) (gR g 2) 30 i) (sem S i) := by
  have hn := (hR.2.2.2.2.1 i hi).2.2.2.2.2
  have hc := hO.2.2.2.1
  exact gat_sem hO (fun j hb hcm => (hn.2 j hb).2 hcm) 30 i (by omega) hi hn.1
theorem ask_rows {k : Nat → ClassId} {L : List Nat} {f : Nat → va_E} {g : CG} {S : SA} (hR : cRep k L f g S) (hO : aOK S) {i : Nat} (hi : i < sC S) {X J : Nat → Nat → Int32} (hX : askI S (gD g i) 30 X J) : Rp (X i) (sem S i) := by
  have hn := (hR.2.2.2.2.1 i hi).2.2.2.2.2
  have hc := hO.2.2.2.1
  exact ask_sem hO hX (fun j hb hcm => (hn.2 j hb).2 hcm) 30 i (by omega) (by omega) hi hn.1
