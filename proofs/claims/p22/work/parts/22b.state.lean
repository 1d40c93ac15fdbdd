theorem cR_inj {k : Nat → ClassId} {L : List Nat} {f : Nat → va_E} {g : CG} {S : SA} (h : cRep k L f g S) : ∀ i j, i < 4 → j < 4 → (fun j => gA g (9 + j)) i = (fun j => gA g (9 + j)) j → i = j := fun i j hi hj e => by
  have e1 := (h.2.2.2.1 i hi).2.2.2.2.2
  have e2 := (h.2.2.2.1 j hj).2.2.2.2.2
  rw [show gA g (9 + i) = gA g (9 + j) from e, e2] at e1
  omega
theorem cR_lm {k : Nat → ClassId} {L : List Nat} {f : Nat → va_E} {g : CG} {S : SA} (h : cRep k L f g S) : ∀ j, j < 4 → gA g 2 ≠ (fun j => gA g (9 + j)) j := fun j hj e => by
  have e1 := (h.2.2.2.1 j hj).2.2.2.2.2
  rw [← show gA g 2 = gA g (9 + j) from e, h.2.2.1] at e1
  omega
theorem ins_post {k : Nat → ClassId} {L : List Nat} {f : Nat → va_E} {g : CG} {S : SA} (hR : cRep k L f g S) (hO : aOK S) {z y : Int} {r9 : Int32} {u : va_W} (h : r9 = zI (sN S + 1) ∧ ∃ G : Nat → Nat → Int32, (∀ i, i < 4 → ∀ j : Nat, j < 24 → G i j = op2 (sR S i) z 24 j) ∧ ∃ F, u = va_pl L F ∧ F (gA g 1) = .inr (7, [.ref (gA g 2), .ref (gA g 3), .int (zI (sN S + 1))]) ∧ F (gA g 2) = .inl (k 0, 24, .inl (upd (shU (sT S) z (sN S) z) z.toNat (zI y))) ∧ (∀ i, i < 4 → F ((fun j => gA g (9 + j)) i) = .inl (k 0, 24, .inl (G i))) ∧ ∀ a, a ≠ gA g 1 → a ≠ gA g 2 → (∀ i, i < 4 → a ≠ (fun j => gA g (9 + j)) i) → F a = f a) :
    r9 = zI (sN S + 1) ∧ ∃ (G : Nat → Nat → Int32) (F : Nat → va_E), (∀ i, i < 4 → ∀ j : Nat, j < 24 → G i j = op2 (sR S i) z 24 j) ∧ u = va_pl L F ∧ cRep k L F g (insS S z y G) := by
  obtain ⟨h1, G, h2, F, h3, h4, h5, h6, h7⟩ := h
  exact ⟨h1, G, F, h2, h3, hR.text hO h4 h5 h6 rfl h7⟩
theorem rem_post {k : Nat → ClassId} {L : List Nat} {f : Nat → va_E} {g : CG} {S : SA} (hR : cRep k L f g S) (hO : aOK S) {z : Int} {r9 : Int32} {u : va_W} (h : r9 = sT S z.toNat ∧ ∃ F, u = va_pl L F ∧ F (gA g 1) = .inr (7, [.ref (gA g 2), .ref (gA g 3), .int (zI (sN S - 1))]) ∧ F (gA g 2) = .inl (k 0, 24, .inl (shD (sT S) z (sN S - 1))) ∧ (∀ i, i < 4 → F ((fun j => gA g (9 + j)) i) = .inl (k 0, 24, .inl (fa_fill (clF (sR S i) z) (sR S i) 24))) ∧ ∀ a, a ≠ gA g 1 → a ≠ gA g 2 → (∀ i, i < 4 → a ≠ (fun j => gA g (9 + j)) i) → F a = f a) :
    r9 = sT S z.toNat ∧ ∃ F : Nat → va_E, u = va_pl L F ∧ cRep k L F g (remS S z (fun i => fa_fill (clF (sR S i) z) (sR S i) 24)) := by
  obtain ⟨h1, F, h3, h4, h5, h6, h7⟩ := h
  exact ⟨h1, F, h3, hR.text hO h4 h5 h6 rfl h7⟩
