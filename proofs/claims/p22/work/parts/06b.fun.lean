theorem op2_e {g : Nat → Int32} {z : Int} {i j : Nat} (h : (i : Int) = z ∨ 24 ≤ i) (hj : j < 24) : op2 g z i j = op2 g z 24 j := by
  unfold op2
  by_cases a : (j : Int) = z
  · rw [if_pos a, if_pos a]
  · rw [if_neg a, if_neg a]
    by_cases b : z < (j : Int) ∧ j < 24
    · rw [if_pos b, if_pos b]
    · rw [if_neg b, if_neg b]
      by_cases c : j < i
      · rw [if_pos c, if_pos (by omega)]
      · exact absurd h (by omega)
theorem clF_s {g : Nat → Int32} {p z2 : Int} {i : Nat} {x y : Int32} (hz : z2 = i) (hx : (if (i : Int) ≤ p then rowAt g (i : Int) else zI 0) = x) (hy : (if p ≤ (i : Int) then rowAt g ((i : Int) + 1) else zI 0) = y) : upd (fa_fill (clF g p) g i) i (ecM p (x ||| y) &&& onM (z2 + 1)) = fa_fill (clF g p) g (i + 1) := by
  subst hz
  have e : ecM p (x ||| y) &&& onM ((i : Int) + 1) = clF g p i := by rw [clF, hx, hy]
  rw [e]
  exact fa_fill_succ (clF g p) g i
theorem jn_e {g1 g2 g : Nat → Int32} {w : Int} {a n : Nat} (h : n = 23 - a) : upd (fa_fill (jnF g1 g2 w) g a) a (jnA g1 g2 w a n) = fa_fill (jnF g1 g2 w) g (a + 1) := by
  subst h
  exact fa_fill_succ (jnF g1 g2 w) g a
theorem jn_t {g1 g2 : Nat → Int32} {w z4 z5 : Int} {a n : Nat} (h4 : z4 = a) (h5 : z5 = a + 1 + n) (h : ¬ rowAt g1 z4 &&& (upM z5 &&& onM (z5 - w)) = 0) : jnA g1 g2 w a (n + 1) = jnA g1 g2 w a n ||| rowAt g2 z5 := by
  subst h4 h5
  conv => lhs; unfold jnA
  rw [if_neg h]
theorem jn_f {g1 g2 : Nat → Int32} {w z4 z5 : Int} {a n : Nat} (h4 : z4 = a) (h5 : z5 = a + 1 + n) (h : rowAt g1 z4 &&& (upM z5 &&& onM (z5 - w)) = 0) : jnA g1 g2 w a (n + 1) = jnA g1 g2 w a n := by
  subst h4 h5
  conv => lhs; unfold jnA
  rw [if_pos h]
theorem ki1_n {g : Nat → Int32} {z1 z2 : Int} (h : 0 ≤ z2 ∧ z2 ≤ 23) (hz : z1 = ((nrF g (23 - z2).toNat : Nat) : Int)) : min z1 ((lowE (rowAt (ki1 g z2) z2) z2 : Nat) : Int) = ((nrF g (23 - (z2 - 1)).toNat : Nat) : Int) := by
  obtain ⟨n, hn⟩ : ∃ n : Nat, z2 = 23 - n ∧ n ≤ 23 := ⟨(23 - z2).toNat, by omega⟩
  obtain ⟨rfl, hn⟩ := hn
  rw [show (23 - (23 - (n : Int) - 1)).toNat = n + 1 by omega, ki1_row h, hz, show (23 - (23 - (n : Int))).toNat = n by omega]
  conv => rhs; unfold nrF
  rw [show (23 - (n : Int)).toNat = 23 - n by omega, show ((23 - n : Nat) : Int) = 23 - (n : Int) by omega]
  omega
theorem ki1_x1 {g : Nat → Int32} {z1 z2 : Int} (h : 0 ≤ z2 ∧ z2 ≤ 23) (hz : z1 = ((nrF g (23 - z2).toNat : Nat) : Int)) (c : ((lowE (rowAt (ki1 g z2) z2) z2 : Nat) : Int) < z1) : pw (((lowE (rowAt (ki1 g z2) z2) z2 : Nat) : Int)).toNat = kiF g z2.toNat := by
  rw [ki1_row h] at c ⊢
  rw [hz] at c
  unfold kiF
  rw [show ((z2.toNat : Nat) : Int) = z2 by omega, show 23 - z2.toNat = (23 - z2).toNat by omega, if_pos (by omega), Int.toNat_natCast]
theorem ki1_x0 {g : Nat → Int32} {z1 z2 : Int} (h : 0 ≤ z2 ∧ z2 ≤ 23) (hz : z1 = ((nrF g (23 - z2).toNat : Nat) : Int)) (c : z1 ≤ ((lowE (rowAt (ki1 g z2) z2) z2 : Nat) : Int)) : zI 0 = kiF g z2.toNat := by
  rw [ki1_row h] at c
  rw [hz] at c
  unfold kiF
  rw [show ((z2.toNat : Nat) : Int) = z2 by omega, show 23 - z2.toNat = (23 - z2).toNat by omega, if_neg (by omega)]
theorem ko_row {g : Nat → Int32} {z2 : Int} {i : Nat} (hi : i < 24) (h2 : z2 = i) : rowAt (fa_fill (koF g) g i) z2 = g i := by
  subst h2
  rw [row_fill (Int.le_refl _), rowAt_in (by omega), Int.toNat_natCast]
theorem ko_n {g : Nat → Int32} {z1 z2 : Int} {i : Nat} (hi : i < 24) (h2 : z2 = i) (h1 : z1 = ((frF g i : Nat) : Int)) : max z1 ((hiE (rowAt (fa_fill (koF g) g i) z2) 24 : Nat) : Int) = ((frF g (i + 1) : Nat) : Int) := by
  rw [ko_row hi h2, h1]
  conv => rhs; unfold frF
  omega
theorem ko_1 {g : Nat → Int32} {z1 z2 : Int} {i : Nat} (hi : i < 24) (h2 : z2 = i) (h1 : z1 = ((frF g i : Nat) : Int)) (c : z1 < ((hiE (rowAt (fa_fill (koF g) g i) z2) 24 : Nat) : Int)) : upd (fa_fill (koF g) g i) i (pw (((hiE (rowAt (fa_fill (koF g) g i) z2) 24 : Nat) : Int)).toNat) = fa_fill (koF g) g (i + 1) := by
  rw [ko_row hi h2] at c ⊢
  rw [h1] at c
  have e : pw (((hiE (g i) 24 : Nat) : Int)).toNat = koF g i := by
    unfold koF
    rw [if_pos (by omega), Int.toNat_natCast]
  rw [e]
  exact fa_fill_succ (koF g) g i
theorem ko_0 {g : Nat → Int32} {z1 z2 : Int} {i : Nat} (hi : i < 24) (h2 : z2 = i) (h1 : z1 = ((frF g i : Nat) : Int)) (c : ((hiE (rowAt (fa_fill (koF g) g i) z2) 24 : Nat) : Int) ≤ z1) : upd (fa_fill (koF g) g i) i (zI 0) = fa_fill (koF g) g (i + 1) := by
  rw [ko_row hi h2] at c
  rw [h1] at c
  have e : zI 0 = koF g i := by
    unfold koF
    rw [if_neg (by omega)]
  rw [e]
  exact fa_fill_succ (koF g) g i
theorem cw_i0 {g : Nat → Int32} {a b c d : Int} (h : 0 ≤ a) : 0 = fb_ct (cwP g a b c d) (25 * a.toNat) := by
  rw [ct_flat (Nat.zero_le _) (fun q _ h2 => cwP_no (by omega))]
  rfl
theorem cw_i1 {g : Nat → Int32} {a b c d z6 : Int} {i n : Nat} (h6 : z6 = i) (hc : 0 ≤ c ∧ c ≤ 25 ∧ i < 25) (hn : n = fb_ct (cwP g a b c d) (25 * i)) : n = fb_ct (cwP g a b c d) (25 * i + (max c (z6 + 1)).toNat) := by
  subst h6
  rw [hn]
  refine (ct_flat (by omega) (fun q h1 h2 => ?_)).symm
  by_cases r : q % 25 ≤ q / 25
  · exact cwP_lo r
  · exact cwP_no (by omega)
theorem cw_i2 {g : Nat → Int32} {a b c d : Int} {i j n : Nat} (h : d < (j : Int) ∧ j ≤ 25) (hn : n = fb_ct (cwP g a b c d) (25 * i + j)) : n = fb_ct (cwP g a b c d) (25 * (i + 1)) := by
  rw [hn]
  exact (ct_flat (by omega) (fun q h1 h2 => cwP_no (by omega))).symm
theorem cw_e {g : Nat → Int32} {a b c d : Int} {i : Nat} (h : b < (i : Int)) (hi : i ≤ 31) : fb_ct (cwP g a b c d) (25 * i) = cwN g a b c d := by
  unfold cwN
  rcases Nat.lt_or_ge i 25 with q | q
  · exact (ct_flat (by omega) (fun q h1 h2 => cwP_no (by omega))).symm
  · exact ct_flat (by omega) (fun q h1 h2 => by rw [cwP, linB_hi g (by omega), Bool.and_false])
theorem ij_0 {g1 g2 : Nat → Int32} {v z w : Int} {i : Nat} (h : (i : Int) = z + 1) : ∀ j : Nat, j < i → ijP g1 g2 v z w j = false := fun j hj => by rw [ijP, decide_eq_false (by omega)]; rfl
theorem ij_s1 {g1 g2 : Nat → Int32} {v z w z5 : Int} {i : Nat} (hno : ∀ j : Nat, j < i → ijP g1 g2 v z w j = false) (h5 : z5 = i) (h : hasB g1 z z5 = false) : ∀ j : Nat, j < i + 1 → ijP g1 g2 v z w j = false := fun j hj => by
  rcases Nat.lt_or_ge j i with q | q
  · exact hno j q
  · subst h5
    rw [show j = i by omega, ijP, h]
    simp
theorem ij_s2 {g1 g2 : Nat → Int32} {v z w z5 : Int} {i : Nat} (hno : ∀ j : Nat, j < i → ijP g1 g2 v z w j = false) (h5 : z5 = i) (h : ((cwN g2 z5 (min (z5 + v) (w - 1)) w w : Nat) : Int) ≤ 0) : ∀ j : Nat, j < i + 1 → ijP g1 g2 v z w j = false := fun j hj => by
  rcases Nat.lt_or_ge j i with q | q
  · exact hno j q
  · subst h5
    rw [show j = i by omega, ijP, decide_eq_false (by omega : ¬ 0 < cwN g2 (i : Int) (min ((i : Int) + v) (w - 1)) w w)]
    simp
theorem ij_t {g1 g2 : Nat → Int32} {v z w z5 : Int} {i : Nat} (hi : z < (i : Int) ∧ (i : Int) < w) (hw : w ≤ 24) (h5 : z5 = i) (h : hasB g1 z z5 = true) (h2 : 0 < ((cwN g2 z5 (min (z5 + v) (w - 1)) w w : Nat) : Int)) : ijB g1 g2 v z w = true := by
  subst h5
  refine anyN_t (j := i) ?_ (by omega)
  rw [ijP, decide_eq_true hi, h, decide_eq_true (by omega)]
  rfl
theorem ij_e {g1 g2 : Nat → Int32} {v z w : Int} {i : Nat} (hno : ∀ j : Nat, j < i → ijP g1 g2 v z w j = false) (hi : w ≤ (i : Int)) : ijB g1 g2 v z w = false := anyN_f (fun j hj => by
  rcases Nat.lt_or_ge j i with q | q
  · exact hno j q
  · rw [ijP, decide_eq_false (by omega)]; rfl)
theorem jn_s1 {g1 g2 G : Nat → Int32} {w z4 z5 : Int} {a n : Nat} (h4 : z4 = a) (h5 : z5 = a + 1 + n) (h : ¬ rowAt g1 z4 &&& (upM z5 &&& onM (z5 - w)) = 0) : upd (upd G a (jnA g1 g2 w a n)) a (upd G a (jnA g1 g2 w a n) a ||| rowAt g2 z5) = upd G a (jnA g1 g2 w a (n + 1)) := by
  rw [fa_upd_twice, pk_us, jn_t h4 h5 h]
theorem cwN_le (g : Nat → Int32) (a b c d : Int) : cwN g a b c d ≤ 625 := fb_ct_le _ 625
