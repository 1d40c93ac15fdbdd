section SEM
variable {g g1 g2 : Nat → Int32} {A B : Nat → Nat → Prop}
theorem ae_s {P : Int → Int → Bool} {n : Int} {G : Nat → Int32} {Q : Nat → Nat → Prop} (h : aeP P n G) (hQ : ∀ z t : Nat, z < t → (t : Int) ≤ n → (P (z : Int) (t : Int) = true ↔ Q z t)) (hR : Rg n.toNat Q) (hn : 0 ≤ n) : Rp G Q := fun z hz t ht => by
  rw [h z hz t ht, Bool.and_eq_true, decide_eq_true_eq]
  constructor
  · rintro ⟨⟨a, b, c⟩, d⟩; exact (hQ z t b c).mp d
  · intro q
    have := hR z t q
    exact ⟨⟨by omega, by omega, by omega⟩, (hQ z t (by omega) (by omega)).mpr q⟩
theorem cw_in (h : Rp g2 B) (hB : Rg 24 B) (z t : Nat) : 0 < cwN g2 (z : Int) ((t : Int) - 1) ((z : Int) + 1) (t : Int) ↔ sIn B z t := by
  rw [cw_pos h hB]
  constructor
  · rintro ⟨x, y, a, b, c, d, e⟩; exact ⟨x, y, a, by omega, by omega⟩
  · rintro ⟨x, y, a, b, c⟩
    have := hB x y a
    exact ⟨x, y, a, by omega, by omega, by omega, by omega⟩
theorem cw_rd (h : Rp g2 B) (hB : Rg 24 B) (z t : Nat) : 0 < cwN g2 0 (z : Int) (t : Int) 24 ↔ sRd B z t := by
  rw [cw_pos h hB]
  constructor
  · rintro ⟨x, y, a, b, c, d, e⟩; exact ⟨x, y, a, by omega, by omega⟩
  · rintro ⟨x, y, a, b, c⟩
    have := hB x y a
    exact ⟨x, y, a, by omega, by omega, by omega, by omega⟩
theorem cw_ah (h : Rp g2 B) (hB : Rg 24 B) (t : Nat) : 0 < cwN g2 (t : Int) 23 ((t : Int) + 1) 24 ↔ sAh B t := by
  rw [cw_pos h hB]
  constructor
  · rintro ⟨x, y, a, b, c, d, e⟩; exact ⟨x, y, a, by omega⟩
  · rintro ⟨x, y, a, b⟩
    have := hB x y a
    exact ⟨x, y, a, by omega, by omega, by omega, by omega⟩
theorem cw_be (h : Rp g2 B) (hB : Rg 24 B) (z : Nat) : 0 < cwN g2 0 ((z : Int) - 1) 1 (z : Int) ↔ sBe B z := by
  rw [cw_pos h hB]
  constructor
  · rintro ⟨x, y, a, b, c, d, e⟩; exact ⟨x, y, a, by omega⟩
  · rintro ⟨x, y, a, b⟩
    have := hB x y a
    exact ⟨x, y, a, by omega, by omega, by omega, by omega⟩
theorem dec_t {P Q : Prop} [Decidable P] (h : P ↔ Q) : decide P = true ↔ Q := by rw [decide_eq_true_eq]; exact h
theorem dec_0 {n : Nat} {Q : Prop} (h : 0 < n ↔ Q) : decide (n = 0) = true ↔ ¬ Q := by rw [decide_eq_true_eq, ← h]; omega
theorem pa_i {w : Nat} (hw : w < 9) (h1 : Rp g1 A) (hA : Rg 24 A) (h2 : Rp g2 B) (hB : Rg 24 B) (z t : Nat) : paB (w : Int) g1 g2 (z : Int) (t : Int) = true ↔ sPa w A B z t := by
  have a := has_i h1 hA z t
  have b := has_i h2 hB z t
  rcases (show w = 0 ∨ w = 1 ∨ w = 2 ∨ w = 3 ∨ w = 4 ∨ w = 5 ∨ w = 6 ∨ w = 7 ∨ w = 8 by omega) with rfl | rfl | rfl | rfl | rfl | rfl | rfl | rfl | rfl
  · show (hasB g1 (z : Int) (t : Int) || hasB g2 (z : Int) (t : Int)) = true ↔ (A z t ∨ B z t)
    rw [Bool.or_eq_true, a, b]
  · show (hasB g1 (z : Int) (t : Int) && hasB g2 (z : Int) (t : Int)) = true ↔ (A z t ∧ B z t)
    rw [Bool.and_eq_true, a]
    exact and_congr_right fun _ => b
  · show (hasB g1 (z : Int) (t : Int) && !hasB g2 (z : Int) (t : Int)) = true ↔ (A z t ∧ ¬ B z t)
    rw [Bool.and_eq_true, a]
    exact and_congr_right fun _ => not_t b
  · show (hasB g1 (z : Int) (t : Int) && decide (0 < cwN g2 (z : Int) ((t : Int) - 1) ((z : Int) + 1) (t : Int))) = true ↔ (A z t ∧ sIn B z t)
    rw [Bool.and_eq_true, a]
    exact and_congr_right fun _ => dec_t (cw_in h2 hB z t)
  · show (hasB g1 (z : Int) (t : Int) && decide (cwN g2 (z : Int) ((t : Int) - 1) ((z : Int) + 1) (t : Int) = 0)) = true ↔ (A z t ∧ ¬ sIn B z t)
    rw [Bool.and_eq_true, a]
    exact and_congr_right fun _ => dec_0 (cw_in h2 hB z t)
  · show (hasB g1 (z : Int) (t : Int) && decide (0 < cwN g2 0 (z : Int) (t : Int) 24)) = true ↔ (A z t ∧ sRd B z t)
    rw [Bool.and_eq_true, a]
    exact and_congr_right fun _ => dec_t (cw_rd h2 hB z t)
  · show (hasB g1 (z : Int) (t : Int) && decide (cwN g2 0 (z : Int) (t : Int) 24 = 0)) = true ↔ (A z t ∧ ¬ sRd B z t)
    rw [Bool.and_eq_true, a]
    exact and_congr_right fun _ => dec_0 (cw_rd h2 hB z t)
  · show (hasB g1 (z : Int) (t : Int) && decide (0 < cwN g2 (t : Int) 23 ((t : Int) + 1) 24)) = true ↔ (A z t ∧ sAh B t)
    rw [Bool.and_eq_true, a]
    exact and_congr_right fun _ => dec_t (cw_ah h2 hB t)
  · show (hasB g1 (z : Int) (t : Int) && decide (0 < cwN g2 0 ((z : Int) - 1) 1 (z : Int))) = true ↔ (A z t ∧ sBe B z)
    rw [Bool.and_eq_true, a]
    exact and_congr_right fun _ => dec_t (cw_be h2 hB z)
end SEM
theorem askR_sem {S : SA} (hO : aOK S) {i : Nat} (hi : i < sC S) {G : Nat → Nat → Int32} {J X : Nat → Int32} (hr : askR S G i J X) (h : comp S i → Rp (G (sO S i)) (sem S (sO S i)) ∧ Rp (G (sP S i)) (sem S (sP S i))) : Rp X (sem S i) := by
  have hk := hO.2.2.2.2 i hi
  have hw14 := hk.1
  have hn := hO.1
  have hR := semG hO hi
  refine ae_s hr.2 (fun z t hz ht => ?_) hR hn.1
  rw [sem_eq hO hi]
  unfold askP semF
  by_cases c1 : sW S i = 12
  · rw [if_pos c1, if_pos c1]
    constructor
    · intro q
      obtain ⟨a, b⟩ := hasB_rng q
      rw [Int.toNat_natCast, Int.toNat_natCast] at b
      exact ⟨by omega, by omega, b⟩
    · rintro ⟨a, b, c⟩
      exact hasB_t (by omega) (by rw [Int.toNat_natCast, Int.toNat_natCast]; exact c)
  · rw [if_neg c1, if_neg c1]
    by_cases c2 : sW S i = 11
    · rw [if_pos c2, if_pos c2]
      unfold ltB atB plB
      rw [Bool.and_eq_true, Bool.and_eq_true, decide_eq_true_eq, decide_eq_true_eq, decide_eq_true_eq, Int.toNat_natCast]
      constructor
      · rintro ⟨a, b, c⟩; exact ⟨by omega, b.2, c⟩
      · rintro ⟨a, b, c⟩; exact ⟨by omega, ⟨by omega, b⟩, c⟩
    · rw [if_neg c2, if_neg c2]
      obtain ⟨a, b⟩ := hk.2.2.2.2.1 ⟨c2, c1⟩
      obtain ⟨h1, h2⟩ := h ⟨c2, c1⟩
      have hA := sem24 hO (i := sO S i) (by omega)
      have hB := sem24 hO (i := sP S i) (by omega)
      by_cases c3 : sW S i = 10
      · rw [if_pos c3, if_pos c3]
        exact ij_i h1 hA h2 hB (hk.2.2.2.2.2.1 c3).1 (by omega)
      · rw [if_neg c3, if_neg c3]
        by_cases c4 : sW S i = 13
        · rw [if_pos (Or.inl c4), if_pos c4, decide_eq_false (by omega)]
          exact on_i0 h1 hA z t
        · rw [if_neg c4]
          by_cases c5 : sW S i = 14
          · rw [if_pos (Or.inr c5), if_pos c5, decide_eq_true c5]
            exact on_i h1 hA z t
          · rw [if_neg (by omega), if_neg c5]
            by_cases c6 : sW S i = 9
            · rw [if_pos c6, if_pos c6]
              have hJ : Rp J (sJn (sem S (sO S i)) (sem S (sP S i)) 24) := ae_s (hr.1 c6) (fun z t _ ht => ij_i h1 hA h2 hB (gp := 24) (by decide) (by omega)) (sJn_in (semG hO (by omega)) (semG hO (by omega))) hn.1
              exact sp_i hJ (sJn_in hA hB) z t
            · rw [if_neg c6, if_neg c6]
              exact pa_i (by omega) h1 hA h2 hB z t
theorem ask_sem {S : SA} (hO : aOK S) {nd : Int32} {X J : Nat → Nat → Int32} {m : Nat} (hI : askI S nd m X J) (hnd : ∀ j, bt nd j = true → comp S j → bt nd (sO S j) = true ∧ bt nd (sP S j) = true) : ∀ (c j : Nat), j < c → j < m → j < sC S → bt nd j = true → Rp (X j) (sem S j)
  | 0, j, h, _, _, _ => absurd h (Nat.not_lt_zero j)
  | c + 1, j, h, hm, hj, hb => by
    have ih := ask_sem hO hI hnd c
    refine askR_sem hO hj (hI j hm hj hb) (fun hc => ?_)
    obtain ⟨a, b⟩ := (hO.2.2.2.2 j hj).2.2.2.2.1 hc
    obtain ⟨p, q⟩ := hnd j hb hc
    exact ⟨ih _ (by omega) (by omega) (by omega) p, ih _ (by omega) (by omega) (by omega) q⟩
