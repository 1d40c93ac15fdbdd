/-! p22: a node's regions in their order, and what is counted of them on the way -/
section ND
variable {G : Nat → Int32} {A : Nat → Nat → Prop}
def rk (G : Nat → Int32) (a b : Nat) : Nat := fb_ct (linB G) (25 * a + b)
def rg (G : Nat → Int32) (a b : Nat) : Prop := a < 24 ∧ b ≤ 24 ∧ hasB G (a : Int) (b : Int) = true
theorem rg.lin {a b : Nat} (h : rg G a b) : linB G (25 * a + b) = true := by rw [linB_at G (by have := h.2.1; omega)]; exact h.2.2
theorem rg.lt {a b : Nat} (h : rg G a b) : a < b := by have := (hasB_rng h.2.2).1; omega
theorem rk_lt {a b a2 b2 : Nat} (h : rk G a b < rk G a2 b2) : 25 * a + b < 25 * a2 + b2 := Nat.lt_of_not_le fun h9 => by
  have := fb_ct_mono (linB G) h9
  unfold rk at h
  omega
theorem rk_inj {a b a2 b2 : Nat} (h : rg G a b) (h2 : rg G a2 b2) (e : rk G a b = rk G a2 b2) : a = a2 ∧ b = b2 := by
  have h3 := fb_ct_kth_one h.lin h2.lin e
  have := h.2.1
  have := h2.2.1
  omega
def nLast (G : Nat → Int32) (m z : Int) : Prop := (-1 ≤ z ∧ z ≤ 3000) ∧ ∀ a b : Nat, rg G a b → m ≤ (rk G a b : Int) → z < 100 * (a : Int) + (b : Int)
def nLong (G : Nat → Int32) (m z : Int) : Prop := (0 ≤ z ∧ z ≤ 24) ∧ (∀ a b : Nat, rg G a b → (rk G a b : Int) < m → (b : Int) - (a : Int) ≤ z) ∧ (z = 0 ∨ ∃ a b : Nat, rg G a b ∧ (b : Int) - (a : Int) = z)
def nPl (G : Nat → Int32) (m : Int) (w : Int32) : Prop := ∀ t : Nat, t < 32 → (bt w t = true ↔ ∃ a b : Nat, rg G a b ∧ (rk G a b : Int) < m ∧ a ≤ t ∧ t < b)
def nPb (w0 w : Int32) (a : Int) (z : Int) : Prop := ∀ t : Nat, t < 32 → (bt w t = true ↔ bt w0 t = true ∨ (a ≤ (t : Int) ∧ (t : Int) < z))
theorem nLast_0 : nLast G 0 (-1) := ⟨by decide, fun a b _ _ => by omega⟩
theorem nLong_0 : nLong G 0 0 := ⟨by decide, fun a b _ h => absurd h (by omega), Or.inl rfl⟩
theorem nPl_0 : nPl G 0 (zI 0) := fun t _ => ⟨fun h => by rw [b_z0] at h; exact absurd h (by decide), fun ⟨a, b, _, h, _⟩ => absurd h (by omega)⟩
theorem nPb_0 (w : Int32) (a : Int) : nPb w w a a := fun t _ => ⟨Or.inl, fun h => h.elim id (fun q => absurd q (by omega))⟩
theorem nLast_s {a b : Nat} {m : Int} (h : rg G a b) (e : (rk G a b : Int) = m) : nLast G (m + 1) (100 * (a : Int) + (b : Int)) := by
  have := h.1
  have := h.2.1
  refine ⟨by omega, fun a2 b2 h2 h3 => ?_⟩
  have h4 := rk_lt (G := G) (a := a) (b := b) (a2 := a2) (b2 := b2) (by omega)
  have := h2.2.1
  omega
theorem nLong_n {a b : Nat} {m z : Int} (h : rg G a b) (e : (rk G a b : Int) = m) (hl : nLong G m z) (hz : z < (b : Int) - (a : Int)) : nLong G (m + 1) ((b : Int) - (a : Int)) := by
  have := h.2.1
  refine ⟨by have := hl.1; omega, fun a2 b2 h2 h3 => ?_, Or.inr ⟨a, b, h, rfl⟩⟩
  by_cases c : (rk G a2 b2 : Int) < m
  · have := hl.2.1 a2 b2 h2 c
    omega
  · obtain ⟨rfl, rfl⟩ := rk_inj h2 h (by omega)
    exact Int.le_refl _
theorem nLong_o {a b : Nat} {m z : Int} (h : rg G a b) (e : (rk G a b : Int) = m) (hl : nLong G m z) (hz : (b : Int) - (a : Int) ≤ z) : nLong G (m + 1) z := by
  refine ⟨hl.1, fun a2 b2 h2 h3 => ?_, hl.2.2⟩
  by_cases c : (rk G a2 b2 : Int) < m
  · exact hl.2.1 a2 b2 h2 c
  · obtain ⟨rfl, rfl⟩ := rk_inj h2 h (by omega)
    exact hz
theorem nPb_s {w0 w : Int32} {a z : Int} (h : nPb w0 w a z) (hz : 0 ≤ z ∧ z < 32) (ha : a ≤ z) : nPb w0 (w ||| pw z.toNat) a (z + 1) := fun t ht => by
  rw [b_or, bt_pw (by omega), Bool.or_eq_true, h t ht, decide_eq_true_eq]
  constructor
  · rintro ((q | q) | q)
    · exact Or.inl q
    · exact Or.inr (by omega)
    · exact Or.inr (by omega)
  · rintro (q | q)
    · exact Or.inl (Or.inl q)
    · by_cases c : (t : Int) < z
      · exact Or.inl (Or.inr (by omega))
      · exact Or.inr (by omega)
theorem nPl_s {a b : Nat} {m z : Int} {w0 w : Int32} (h : rg G a b) (e : (rk G a b : Int) = m) (h0 : nPl G m w0) (hb : nPb w0 w (a : Int) z) (hz : z = (b : Int)) : nPl G (m + 1) w := fun t ht => by
  rw [hb t ht, h0 t ht]
  constructor
  · rintro (⟨a2, b2, h2, h3, h4, h5⟩ | q)
    · exact ⟨a2, b2, h2, by omega, h4, h5⟩
    · exact ⟨a, b, h, by omega, by omega, by omega⟩
  · rintro ⟨a2, b2, h2, h3, h4, h5⟩
    by_cases c : (rk G a2 b2 : Int) < m
    · exact Or.inl ⟨a2, b2, h2, c, h4, h5⟩
    · obtain ⟨rfl, rfl⟩ := rk_inj h2 h (by omega)
      exact Or.inr (by omega)
theorem ct_bit {x : Int32} {j : Nat} (hj : j < 24) : fb_ct (bt (x ||| pw j)) 24 + (if bt x j then 1 else 0) = fb_ct (bt x) 24 + 1 := by
  have h := fb_ct_upd (bt x) true (i := j) (n := 24) hj
  rw [if_pos (show true = true from rfl)] at h
  rw [← h]
  congr 1
  exact fb_ct_cong fun q hq => by
    rw [b_or, bt_pw (by omega)]
    by_cases c : q = j
    · rw [if_pos c, decide_eq_true c, Bool.or_true]
    · rw [if_neg c, decide_eq_false c, Bool.or_false]
theorem ct_b1 {x : Int32} {z z7 : Int} (hz : 0 ≤ z ∧ z < 24) (h7 : z7 = ((fb_ct (bt x) 24 : Nat) : Int)) (hb : bt x z.toNat = true) : z7 + 0 = ((fb_ct (bt (x ||| pw z.toNat)) 24 : Nat) : Int) := by
  have h := ct_bit (x := x) (j := z.toNat) (by omega)
  rw [if_pos hb] at h
  omega
theorem ct_b0 {x : Int32} {z z7 : Int} (hz : 0 ≤ z ∧ z < 24) (h7 : z7 = ((fb_ct (bt x) 24 : Nat) : Int)) (hb : bt x z.toNat = false) : z7 + 1 = ((fb_ct (bt (x ||| pw z.toNat)) 24 : Nat) : Int) := by
  have h := ct_bit (x := x) (j := z.toNat) (by omega)
  rw [if_neg (by rw [hb]; decide)] at h
  omega
theorem ct_n0 : (0 : Int) = ((fb_ct (bt (zI 0)) 24 : Nat) : Int) := by decide +kernel
/-- every region is told -/
theorem rk_all (hG : Rp G A) (hA : Rg 24 A) {a b : Nat} (h : rg G a b) : rk G a b < sizeR G := lin_lt hG hA (by have := h.1; have := h.2.1; omega) h.lin
theorem fin_long (hG : Rp G A) (hA : Rg 24 A) {m z : Int} (hm : m = ((sizeR G : Nat) : Int)) (h : nLong G m z) : lonI G = z := by
  have h1 := lg_lon hG hA
  have h2 : lonI G ≤ z := by
    rw [← h1, mxI_le]
    refine ⟨h.1.1, fun q hq => ?_⟩
    unfold lgF
    by_cases c : linB G q = true
    · rw [if_pos c]
      have h3 : hasB G ((q / 25 : Nat) : Int) ((q % 25 : Nat) : Int) = true := c
      have h4 := (hasB_rng h3).1
      have h5 : rg G (q / 25) (q % 25) := ⟨by omega, by omega, h3⟩
      have h6 := rk_all hG hA h5
      exact h.2.1 _ _ h5 (by omega)
    · rw [if_neg c]; exact h.1.1
  have h3 := (mxI_le (F := lgF G) (c := lonI G) (n := 625)).mp (by rw [h1]; exact Int.le_refl _)
  rcases h.2.2 with h4 | ⟨a, b, h4, h5⟩
  · have := h3.1; omega
  · have h6 := h3.2 (25 * a + b) (by have := h4.1; have := h4.2.1; omega)
    have := h4.2.1
    unfold lgF at h6
    rw [if_pos h4.lin, show (25 * a + b) % 25 = b by omega, show (25 * a + b) / 25 = a by omega] at h6
    omega
theorem fin_cov (hG : Rp G A) (hA : Rg 24 A) {m z7 : Int} {w : Int32} (hm : m = ((sizeR G : Nat) : Int)) (h : nPl G m w) (h7 : z7 = ((fb_ct (bt w) 24 : Nat) : Int)) : ((covN G : Nat) : Int) = z7 := by
  rw [h7]
  unfold covN
  congr 1
  refine fb_ct_cong fun q hq => ?_
  have h1 := ov_pos hA hG hq
  have h2 := h q (by omega)
  apply Bool.eq_iff_iff.mpr
  rw [decide_eq_true_eq, h1, h2]
  constructor
  · rintro ⟨a, b, h3, h4, h5⟩
    have h6 := hA a b h3
    have h7 : rg G a b := ⟨by omega, h6.2, (has_i hG hA a b).mpr h3⟩
    have h8 := rk_all hG hA h7
    exact ⟨a, b, h7, by omega, h4, h5⟩
  · rintro ⟨a, b, h3, h4, h5, h6⟩
    exact ⟨a, b, (has_i hG hA a b).mp h3.2.2, h5, h6⟩
theorem pc_and (x y : Int32) : pc1 (x &&& y) ≤ pc1 x := fb_ct_sub fun q _ h => by
  rw [b_and, Bool.and_eq_true] at h
  exact h.1
theorem ov_size (G : Nat → Int32) (q : Nat) (hq : q < 24) : ovN G (q : Int) ≤ sizeR G := by
  unfold ovN sizeR
  rw [Int.toNat_natCast]
  have h1 : fb_sm (fun j => pc1 (rowAt G (j : Int) &&& onM ((q : Int) + 1))) (q + 1) ≤ fb_sm (fun j => pc1 (G j)) (q + 1) := fb_sm_le fun j hj => by
    rw [rowAt_in (by omega), Int.toNat_natCast]
    exact pc_and _ _
  have h2 := fb_sm_mono (fun j => pc1 (G j)) (q + 1) (24 - (q + 1))
  rw [show q + 1 + (24 - (q + 1)) = 24 by omega] at h2
  exact Nat.le_trans h1 h2
theorem mx_le {F : Nat → Nat} {c : Nat} : ∀ {n : Nat}, (∀ j, j < n → F j ≤ c) → mxN F n ≤ c
  | 0, _ => Nat.zero_le _
  | n + 1, h => Nat.max_le.mpr ⟨mx_le fun j hj => h j (by omega), h n (by omega)⟩
theorem mx_ge {F : Nat → Nat} {j : Nat} : ∀ {n : Nat}, j < n → F j ≤ mxN F n
  | 0, h => absurd h (Nat.not_lt_zero j)
  | n + 1, h => by
    show F j ≤ max (mxN F n) (F n)
    by_cases c : j = n
    · rw [c]; exact Nat.le_max_right _ _
    · exact Nat.le_trans (mx_ge (by omega)) (Nat.le_max_left _ _)
theorem dep_le (G : Nat → Int32) : depN G ≤ sizeR G := mx_le fun j hj => ov_size G j hj
theorem dep_0 (hG : Rp G A) (hA : Rg 24 A) : depN G = 0 ↔ sizeR G = 0 := by
  constructor
  · intro h
    refine Classical.byContradiction fun hn => ?_
    obtain ⟨a, b, h1, h2, h3, h4⟩ := lin_kth hG hA (y := 0) ⟨by omega, by omega⟩
    have h5 := (has_i hG hA a b).mp h3
    have h6 := hA a b h5
    have h7 := (ov_pos hA hG h1).mpr ⟨a, b, h5, Nat.le_refl _, by omega⟩
    have h8 : ovN G (a : Int) ≤ depN G := mx_ge (F := fun j => ovN G (j : Int)) h1
    omega
  · intro h
    have := dep_le G
    omega
theorem size_600 (hG : Rp G A) (hA : Rg 24 A) : sizeR G ≤ 600 := by
  rw [size_lin hG hA]
  exact fb_ct_le _ _
theorem has_end {n : Nat} (hG : Rp G A) (hA : Rg 24 A) (hn : Rg n A) : hasB G (n : Int) ((n : Int) + 1) = false := by
  cases e : hasB G (n : Int) ((n : Int) + 1) with
  | false => rfl
  | true =>
    have h1 : hasB G (n : Int) ((n + 1 : Nat) : Int) = true := e
    have h2 := hn _ _ ((has_i hG hA n (n + 1)).mp h1)
    omega
end ND
