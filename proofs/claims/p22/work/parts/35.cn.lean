theorem sh_bit {x : Int32} {z : Int} {j : Nat} (hz : z = j) (hj : j < 32) : (x >>> (zI z &&& 31)) &&& zI 1 = zI (if bt x j = true then 1 else 0) := by
  have e : zI z = nI j := by rw [hz, zI_nat]
  rw [e]
  apply b_ext
  intro i hi
  have h1 : bt (zI 1) i = decide (i = 0) := bt_1 i
  rw [b_and, b_sshr j hj x hi, h1]
  by_cases c : i = 0
  · subst c
    rw [if_pos (by omega), Nat.add_zero, decide_eq_true rfl, Bool.and_true]
    cases b : bt x j with
    | false => rw [if_neg (by decide), b_z0]
    | true => rw [if_pos rfl]; decide
  · rw [decide_eq_false c, Bool.and_false]
    cases b : bt x j with
    | false => rw [if_neg (by decide), b_z0]
    | true => rw [if_pos rfl, show bt (zI 1) i = decide (i = 0) from bt_1 i, decide_eq_false c]
theorem ct_sh {x : Int32} {z1 z2 : Int} {j : Nat} (h2 : z2 = j) (h1 : z1 = ((fb_ct (bt x) j : Nat) : Int)) : z1 + (if bt x j = true then 1 else 0) = ((fb_ct (bt x) (j + 1) : Nat) : Int) := by
  rw [fb_ct_succ, h1]
  by_cases c : bt x j = true
  · rw [if_pos c, if_pos c]; omega
  · rw [if_neg c, if_neg c]; omega

section RQ
variable {R R0 : Nat → Int32} {i j t x e o w : Nat} {lo : Bool} {A B P : Nat → Nat → Prop}
def Rq (R : Nat → Int32) (i : Nat) (P : Nat → Nat → Prop) : Prop := ∀ z, z < 25 → ∀ t, t < 32 → (bt (R (25 * i + z)) t = true ↔ P z t)
theorem mo_up3 : ∀ n : Nat, n ≤ 24 → ∀ i, i < 32 → bt (upM (n : Int)) i = decide (i ≤ n) := by decide +kernel
theorem mo_on3 : ∀ n : Nat, n ≤ 25 → ∀ i, i < 32 → bt (onM (n : Int)) i = decide (n ≤ i) := by decide +kernel
end RQ
section SQ
variable {S : SA} {i : Nat}
def mSync (S : SA) (A1 A2 A3 A4 A5 A6 A7 : Nat → Int32) : Prop := (∀ j, j < 24 → A1 j = sT S j) ∧ (∀ q, q < 4 → (∀ j, j < 24 → A2 (25 * q + j) = sR S q j) ∧ A2 (25 * q + 24) = 0) ∧ ∀ i, i < sC S → A3 i = zI (sW S i : Int) ∧ A4 i = zI (sO S i : Int) ∧ (comp S i → A5 i = zI (sP S i : Int)) ∧ A6 i = zI (sG S i) ∧ A7 i = zI (sD S i)
end SQ
section CN
variable {R G : Nat → Int32} {i : Nat} {P : Nat → Nat → Prop}
theorem rp_hi (hG : Rp G P) (hP : Rg 24 P) {z t : Nat} (hz : z < 24) (ht : ¬ (z < t ∧ t ≤ 24)) (h2 : t < 32) : bt (G z) t = false := by
  cases e : bt (G z) t with
  | false => rfl
  | true => exact absurd (hP z t ((hG z hz t h2).mp e)) ht
theorem ct25 {x : Int32} (h : ∀ q, 25 ≤ q → q < 32 → bt x q = false) : fb_ct (bt x) 25 = pc1 x := (ct_flat (by decide) h).symm
theorem ov_pos (hP : Rg 24 P) (hG : Rp G P) {q : Nat} (hq : q < 24) : 0 < ovN G (q : Int) ↔ ∃ z t, P z t ∧ z ≤ q ∧ q < t := by
  unfold ovN
  rw [Int.toNat_natCast]
  constructor
  · intro h
    have h2 : ∃ j, j < q + 1 ∧ 0 < pc1 (rowAt G (j : Int) &&& onM ((q : Int) + 1)) := Classical.byContradiction fun hn => by
      have : fb_sm (fun j => pc1 (rowAt G (j : Int) &&& onM ((q : Int) + 1))) (q + 1) ≤ (q + 1) * 0 := fb_sm_bound fun j hj => Nat.le_of_not_lt fun h3 => hn ⟨j, hj, h3⟩
      omega
    obtain ⟨j, hj, h3⟩ := h2
    obtain ⟨t, ht, hb⟩ := fb_ct_pos.mp h3
    rw [b_and, Bool.and_eq_true, rowAt_in (by omega), Int.toNat_natCast] at hb
    have h4 := (hG j (by omega) t ht).mp hb.1
    have h5 := hP j t h4
    have h6 := hb.2
    rw [show ((q : Int) + 1) = ((q + 1 : Nat) : Int) by omega, mo_on3 (q + 1) (by omega) t ht, decide_eq_true_eq] at h6
    exact ⟨j, t, h4, by omega, by omega⟩
  · rintro ⟨z, t, h1, h2, h3⟩
    have h4 := hP z t h1
    have h5 : 0 < pc1 (rowAt G (z : Int) &&& onM ((q : Int) + 1)) := fb_ct_pos.mpr ⟨t, by omega, by
      rw [b_and, rowAt_in (by omega), Int.toNat_natCast, (hG z (by omega) t (by omega)).mpr h1, show ((q : Int) + 1) = ((q + 1 : Nat) : Int) by omega, mo_on3 (q + 1) (by omega) t (by omega), decide_eq_true (show q + 1 ≤ t by omega)]
      rfl⟩
    have := fb_sm_part (fun j => pc1 (rowAt G (j : Int) &&& onM ((q : Int) + 1))) (show z < q + 1 by omega)
    have h6 : 0 < (fun j : Nat => pc1 (rowAt G (j : Int) &&& onM ((q : Int) + 1))) z := h5
    omega
theorem ov_0 {n : Nat} (hn : Rg n P) (hP : Rg 24 P) (hG : Rp G P) {q : Nat} (hq : q < 24) (h : n ≤ q) : ovN G (q : Int) = 0 := by
  have := mt (ov_pos hP hG hq).mp (fun ⟨z, t, a, b, c⟩ => by have := hn z t a; omega)
  omega
theorem cov_n {n : Nat} (hn : Rg n P) (h24 : n ≤ 24) (hP : Rg 24 P) (hG : Rp G P) : fb_ct (fun j => decide (0 < ovN G (j : Int))) n = covN G := by
  unfold covN
  exact (ct_flat h24 fun q h1 h2 => by rw [ov_0 hn hP hG h2 h1]; rfl).symm
theorem lin_b (hG : Rp G P) (hP : Rg 24 P) {m q : Nat} (hm : m < 24) (hq : q < 25) : linB G (25 * m + q) = bt (G m) q := by
  rw [linB_at G hq]
  exact Bool.eq_iff_iff.mpr ((has_i hG hP m q).trans (hG m hm q (by omega)).symm)
theorem lin_rows (hG : Rp G P) (hP : Rg 24 P) : ∀ m, m ≤ 24 → fb_ct (linB G) (25 * m) = fb_sm (fun j => pc1 (G j)) m
  | 0, _ => rfl
  | m + 1, h => by
    rw [show 25 * (m + 1) = 25 * m + 25 by omega, fb_ct_split, lin_rows hG hP m (by omega), fb_sm_succ]
    congr 1
    rw [fb_ct_cong (q := bt (G m)) fun k hk => lin_b hG hP (by omega) hk]
    exact ct25 fun t h1 h2 => rp_hi hG hP (by omega) (by omega) h2
theorem size_lin (hG : Rp G P) (hP : Rg 24 P) : sizeR G = fb_ct (linB G) 600 := (lin_rows hG hP 24 (by decide)).symm
theorem lin_lt (hG : Rp G P) (hP : Rg 24 P) {q : Nat} (hq : q < 600) (h : linB G q = true) : fb_ct (linB G) q < sizeR G := by
  rw [size_lin hG hP]
  have h1 := fb_ct_mono (linB G) (show q + 1 ≤ 600 by omega)
  rw [fb_ct_succ, h] at h1
  have : (if true = true then 1 else 0) = 1 := rfl
  rw [this] at h1
  omega
theorem lin_kth (hG : Rp G P) (hP : Rg 24 P) {y : Int} (h : 0 ≤ y ∧ y < (sizeR G : Int)) : ∃ a b : Nat, a < 24 ∧ b ≤ 24 ∧ hasB G (a : Int) (b : Int) = true ∧ ((fb_ct (linB G) (25 * a + b) : Nat) : Int) = y := by
  rw [size_lin hG hP] at h
  obtain ⟨q, h1, h2, h3⟩ := fb_ct_kth (show y.toNat < fb_ct (linB G) 600 by omega)
  refine ⟨q / 25, q % 25, by omega, by omega, h2, ?_⟩
  rw [show 25 * (q / 25) + q % 25 = q by omega, h3]
  omega
theorem lin_no (hG : Rp G P) (hP : Rg 24 P) {y : Int} (h : ¬ (0 ≤ y ∧ y < (sizeR G : Int))) : ∀ q, q < 600 → linB G q = true → ((fb_ct (linB G) q : Nat) : Int) ≠ y := fun q h1 h2 => by
  have := lin_lt hG hP h1 h2
  omega
theorem mxI_le {F : Nat → Int} {c : Int} : ∀ {n : Nat}, mxI F n ≤ c ↔ 0 ≤ c ∧ ∀ j, j < n → F j ≤ c
  | 0 => ⟨fun h => ⟨h, fun j hj => absurd hj (Nat.not_lt_zero j)⟩, fun h => h.1⟩
  | n + 1 => by
    show max (mxI F n) (F n) ≤ c ↔ _
    rw [Int.max_le, mxI_le (n := n)]
    constructor
    · rintro ⟨⟨a, b⟩, d⟩
      refine ⟨a, fun j hj => ?_⟩
      by_cases e : j = n
      · rw [e]; exact d
      · exact b j (by omega)
    · rintro ⟨a, b⟩
      exact ⟨⟨a, fun j hj => b j (by omega)⟩, b n (by omega)⟩
def lgF (G : Nat → Int32) (q : Nat) : Int := if linB G q = true then ((q % 25 : Nat) : Int) - ((q / 25 : Nat) : Int) else 0
theorem lg_lon (hG : Rp G P) (hP : Rg 24 P) : mxI (lgF G) 625 = lonI G := by
  have key : ∀ c : Int, mxI (lgF G) 625 ≤ c ↔ lonI G ≤ c := fun c => by
    unfold lonI
    rw [mxI_le, mxI_le]
    constructor
    · rintro ⟨h0, h⟩
      refine ⟨h0, fun j hj => ?_⟩
      rw [rowAt_in (by omega), Int.toNat_natCast]
      by_cases e : hiE (G j) 24 = 0
      · omega
      · obtain ⟨y, h1, h2⟩ := (hi_ge hG hP hj (show 1 ≤ hiE (G j) 24 by omega)).mp (Nat.le_refl _)
        have h3 := hP j y h1
        have h4 := h (25 * j + y) (by omega)
        unfold lgF at h4
        rw [if_pos (by rw [lin_b hG hP hj (by omega)]; exact (hG j hj y (by omega)).mpr h1), show (25 * j + y) % 25 = y by omega, show (25 * j + y) / 25 = j by omega] at h4
        omega
    · rintro ⟨h0, h⟩
      refine ⟨h0, fun q hq => ?_⟩
      unfold lgF
      by_cases e : linB G q = true
      · rw [if_pos e]
        have e2 : hasB G ((q / 25 : Nat) : Int) ((q % 25 : Nat) : Int) = true := e
        have h1 := (has_i hG hP (q / 25) (q % 25)).mp e2
        have h2 := hP _ _ h1
        have h3 := h (q / 25) (by omega)
        rw [rowAt_in (by omega), Int.toNat_natCast] at h3
        have h4 := (hi_ge hG hP (n := q / 25) (e := q % 25) (by omega) (by omega)).mpr ⟨_, h1, Nat.le_refl _⟩
        omega
      · rw [if_neg e]; exact h0
  exact Int.le_antisymm ((key _).mpr (Int.le_refl _)) ((key _).mp (Int.le_refl _))
def sMk (S : SA) (q : Nat) (z t : Nat) : Prop := z < 24 ∧ t < 32 ∧ bt (sR S q z) t = true
theorem mk_g {S : SA} (hO : aOK S) {q : Nat} (hq : q < 4) : Rg (sN S).toNat (sMk S q) := fun z t h => by
  have := hO.2.2.1 q hq z h.1 t h.2.1 h.2.2
  omega
theorem mk_24 {S : SA} (hO : aOK S) {q : Nat} (hq : q < 4) : Rg 24 (sMk S q) := fun z t h => by
  have := hO.2.2.1 q hq z h.1 t h.2.1 h.2.2
  have := hO.1
  omega
theorem mk_p (S : SA) (q : Nat) : Rp (sR S q) (sMk S q) := fun z hz t ht => ⟨fun h => ⟨hz, ht, h⟩, fun h => h.2.2⟩
end CN
def mvF (bg dy : Int) (x : Nat) : Int := if bg ≤ (x : Int) then (x : Int) + dy else (x : Int)
theorem mvF_t {bg dy : Int} {x : Nat} (h : bg ≤ (x : Int)) : mvF bg dy x = (x : Int) + dy := if_pos h
theorem mvF_f {bg dy : Int} {x : Nat} (h : ¬ bg ≤ (x : Int)) : mvF bg dy x = (x : Int) := if_neg h
def sMv (P : Nat → Nat → Prop) (bg en dy : Int) (z t : Nat) : Prop := ∃ x y, P x y ∧ mvF bg dy x = (z : Int) ∧ mvF en dy y = (t : Int) ∧ z < t
def kdI (S : SA) (A2 K2 : Nat → Int32) (bg en dy : Int) (x : Nat) : Prop := ∀ q, q < 4 → (q < x → Rq K2 q (sMv (sMk S q) bg en dy)) ∧ (x ≤ q → ∀ j, j < 25 → K2 (25 * q + j) = A2 (25 * q + j))
theorem eo_bit {z : Nat} {x : Int32} {t : Nat} (hz : z ≤ 24) (ht : t < 32) : bt (eoM (z : Int) x) t = true ↔ (t ≤ z ∧ bt x t = true) ∨ (z + 2 ≤ t ∧ bt x (t - 1) = true) := by
  unfold eoM
  have e1 : zI 1 = nI 1 := by decide
  rw [e1, b_or, b_and, b_shl 1 (by decide) _ ht, b_and, mo_up3 z hz t ht, show ((z : Int) + 1) = ((z + 1 : Nat) : Int) by omega, mo_on3 (z + 1) (by omega) (t - 1) (by omega)]
  simp only [Bool.or_eq_true, Bool.and_eq_true, decide_eq_true_eq]
  constructor
  · rintro (⟨a, b⟩ | ⟨a, b, c⟩)
    · exact Or.inl ⟨b, a⟩
    · exact Or.inr ⟨by omega, b⟩
  · rintro (⟨a, b⟩ | ⟨a, b⟩)
    · exact Or.inl ⟨b, a⟩
    · exact Or.inr ⟨by omega, b, by omega⟩
theorem ec_bit {z : Nat} {x : Int32} {t : Nat} (hz : z ≤ 24) (ht : t < 32) : bt (ecM (z : Int) x) t = true ↔ (t ≤ z ∧ bt x t = true) ∨ (z ≤ t ∧ t + 1 < 32 ∧ bt x (t + 1) = true) := by
  unfold ecM
  have e1 : zI 1 = nI 1 := by decide
  rw [e1, b_or, b_and, b_ushr 1 (by decide), b_and, mo_up3 z hz t ht]
  by_cases c : 1 + t < 32
  · rw [show ((z : Int) + 1) = ((z + 1 : Nat) : Int) by omega, mo_on3 (z + 1) (by omega) (1 + t) c, show 1 + t = t + 1 by omega]
    simp only [Bool.or_eq_true, Bool.and_eq_true, decide_eq_true_eq]
    constructor
    · rintro (⟨a, b⟩ | ⟨a, b⟩)
      · exact Or.inl ⟨b, a⟩
      · exact Or.inr ⟨by omega, by omega, a⟩
    · rintro (⟨a, b⟩ | ⟨a, b, d⟩)
      · exact Or.inl ⟨b, a⟩
      · exact Or.inr ⟨d, by omega⟩
  · rw [b_big (x := x) (i := 1 + t) (by omega)]
    simp only [Bool.or_eq_true, Bool.and_eq_true, decide_eq_true_eq]
    constructor
    · rintro (⟨a, b⟩ | ⟨a, b⟩)
      · exact Or.inl ⟨b, a⟩
      · exact absurd a (by decide)
    · rintro (⟨a, b⟩ | ⟨a, b, d⟩)
      · exact Or.inl ⟨b, a⟩
      · omega
theorem op2_mv {S : SA} (hO : aOK S) {q z : Nat} (hq : q < 4) (hz : (z : Int) ≤ sN S) (hn : sN S < 24) {j t : Nat} (hj : j < 24) (ht : t < 32) : bt (op2 (sR S q) (z : Int) 24 j) t = true ↔ sMv (sMk S q) (z : Int) ((z : Int) + 1) 1 j t := by
  have hr := hO.2.2.1 q hq
  unfold op2
  by_cases c : (j : Int) = z
  · rw [if_pos c, b_z0]
    refine ⟨fun h => absurd h (by decide), fun ⟨x, y, h1, h2, _⟩ => ?_⟩
    unfold mvF at h2
    by_cases d : (z : Int) ≤ x
    · rw [if_pos d] at h2; omega
    · rw [if_neg d] at h2; omega
  · rw [if_neg c]
    by_cases d : (z : Int) < j
    · rw [if_pos ⟨d, hj⟩, eo_bit (by omega) ht]
      constructor
      · rintro (⟨h1, h2⟩ | ⟨h1, h2⟩)
        · have := hr (j - 1) (by omega) t ht h2; omega
        · have := hr (j - 1) (by omega) (t - 1) (by omega) h2
          exact ⟨j - 1, t - 1, ⟨by omega, by omega, h2⟩, by rw [mvF_t (by omega)]; omega, by rw [mvF_t (by omega)]; omega, by omega⟩
      · rintro ⟨x, y, ⟨h1, h2, h3⟩, h4, h5, h6⟩
        have := hr x h1 y h2 h3
        by_cases e : (z : Int) ≤ x
        · rw [mvF_t e] at h4
          rw [mvF_t (by omega)] at h5
          obtain rfl : x = j - 1 := by omega
          obtain rfl : y = t - 1 := by omega
          exact Or.inr ⟨by omega, h3⟩
        · rw [mvF_f e] at h4; omega
    · rw [if_neg (fun h => d h.1), if_pos hj, eo_bit (by omega) ht]
      constructor
      · rintro (⟨h1, h2⟩ | ⟨h1, h2⟩)
        · have := hr j hj t ht h2
          exact ⟨j, t, ⟨hj, ht, h2⟩, mvF_f (by omega), mvF_f (by omega), by omega⟩
        · have := hr j hj (t - 1) (by omega) h2
          exact ⟨j, t - 1, ⟨hj, by omega, h2⟩, mvF_f (by omega), by rw [mvF_t (by omega)]; omega, by omega⟩
      · rintro ⟨x, y, ⟨h1, h2, h3⟩, h4, h5, h6⟩
        by_cases e : (z : Int) ≤ x
        · rw [mvF_t e] at h4; omega
        · rw [mvF_f e] at h4
          obtain rfl : x = j := by omega
          by_cases e2 : (z : Int) + 1 ≤ y
          · rw [mvF_t e2] at h5
            obtain rfl : y = t - 1 := by omega
            exact Or.inr ⟨by omega, h3⟩
          · rw [mvF_f e2] at h5
            obtain rfl : y = t := by omega
            exact Or.inl ⟨by omega, h3⟩
theorem clF_mv {S : SA} (hO : aOK S) {q z : Nat} (hq : q < 4) (hz : (z : Int) < sN S) {j t : Nat} (hj : j < 24) (ht : t < 32) : bt (clF (sR S q) (z : Int) j) t = true ↔ sMv (sMk S q) ((z : Int) + 1) ((z : Int) + 1) (-1) j t := by
  have hr := hO.2.2.1 q hq
  have hn := hO.1
  have w1 : ∀ t, t < 32 → (bt (if (j : Int) ≤ z then rowAt (sR S q) (j : Int) else zI 0) t = true ↔ j ≤ z ∧ bt (sR S q j) t = true) := fun t ht => by
    by_cases c : (j : Int) ≤ z
    · rw [if_pos c, rowAt_in (by omega), Int.toNat_natCast]; exact ⟨fun h => ⟨by omega, h⟩, fun h => h.2⟩
    · rw [if_neg c, b_z0]; exact ⟨fun h => absurd h (by decide), fun h => by omega⟩
  have w2 : ∀ t, t < 32 → (bt (if (z : Int) ≤ j then rowAt (sR S q) ((j : Int) + 1) else zI 0) t = true ↔ z ≤ j ∧ j + 1 < 24 ∧ bt (sR S q (j + 1)) t = true) := fun t ht => by
    by_cases c : (z : Int) ≤ j
    · rw [if_pos c]
      by_cases d : j + 1 < 24
      · rw [rowAt_in (by omega), show ((j : Int) + 1).toNat = j + 1 by omega]; exact ⟨fun h => ⟨by omega, d, h⟩, fun h => h.2.2⟩
      · rw [rowAt_out (by omega), b_z0]; exact ⟨fun h => absurd h (by decide), fun h => by omega⟩
    · rw [if_neg c, b_z0]; exact ⟨fun h => absurd h (by decide), fun h => by omega⟩
  unfold clF
  rw [b_and, Bool.and_eq_true, ec_bit (by omega) ht, show ((j : Int) + 1) = ((j + 1 : Nat) : Int) by omega, mo_on3 (j + 1) (by omega) t ht, decide_eq_true_eq]
  rw [show (((j + 1 : Nat) : Int)) = (j : Int) + 1 by omega]
  constructor
  · rintro ⟨h, h0⟩
    rcases h with ⟨h1, h2⟩ | ⟨h1, h1b, h2⟩
    · rw [b_or, Bool.or_eq_true, w1 t ht, w2 t ht] at h2
      rcases h2 with ⟨a, b⟩ | ⟨a, b, c⟩
      · exact ⟨j, t, ⟨hj, ht, b⟩, mvF_f (by omega), mvF_f (by omega), by omega⟩
      · have := hr (j + 1) b t ht c; omega
    · rw [b_or, Bool.or_eq_true, w1 _ h1b, w2 _ h1b] at h2
      rcases h2 with ⟨a, b⟩ | ⟨a, b, c⟩
      · exact ⟨j, t + 1, ⟨hj, h1b, b⟩, mvF_f (by omega), by rw [mvF_t (by omega)]; omega, by omega⟩
      · exact ⟨j + 1, t + 1, ⟨b, h1b, c⟩, by rw [mvF_t (by omega)]; omega, by rw [mvF_t (by omega)]; omega, by omega⟩
  · rintro ⟨x, y, ⟨h1, h2, h3⟩, h4, h5, h6⟩
    have := hr x h1 y h2 h3
    refine ⟨?_, by omega⟩
    by_cases e : (z : Int) + 1 ≤ x
    · rw [mvF_t e] at h4
      rw [mvF_t (by omega)] at h5
      obtain rfl : x = j + 1 := by omega
      obtain rfl : y = t + 1 := by omega
      refine Or.inr ⟨by omega, h2, ?_⟩
      rw [b_or, Bool.or_eq_true, w2 _ h2]
      exact Or.inr ⟨by omega, h1, h3⟩
    · rw [mvF_f e] at h4
      obtain rfl : x = j := by omega
      by_cases e2 : (z : Int) + 1 ≤ y
      · rw [mvF_t e2] at h5
        obtain rfl : y = t + 1 := by omega
        refine Or.inr ⟨by omega, h2, ?_⟩
        rw [b_or, Bool.or_eq_true, w1 _ h2]
        exact Or.inl ⟨by omega, h3⟩
      · rw [mvF_f e2] at h5
        obtain rfl : y = t := by omega
        refine Or.inl ⟨by omega, ?_⟩
        rw [b_or, Bool.or_eq_true, w1 _ ht]
        exact Or.inl ⟨by omega, h3⟩
theorem mv_row24 {S : SA} (hO : aOK S) {q : Nat} {bg en dy : Int} (hq : q < 4) (hd : dy = 1 ∧ sN S < 24 ∨ dy = -1) (t : Nat) : ¬ sMv (sMk S q) bg en dy 24 t := fun ⟨x, y, h1, h2, h3, h4⟩ => by
  have := hO.2.2.1 q hq x h1.1 y h1.2.1 h1.2.2
  have := hO.1
  by_cases c : bg ≤ (x : Int)
  · rw [mvF_t c] at h2; omega
  · rw [mvF_f c] at h2; omega
theorem kd_rows {S : SA} (hO : aOK S) {A2 K2 : Nat → Int32} {G : Nat → Nat → Int32} {bg en dy : Int} (hK : kdI S A2 K2 bg en dy 4) (hd : dy = 1 ∧ sN S < 24 ∨ dy = -1) (hG : ∀ q, q < 4 → ∀ j, j < 24 → ∀ t, t < 32 → (bt (G q j) t = true ↔ sMv (sMk S q) bg en dy j t)) : ∀ q, q < 4 → (∀ j, j < 24 → K2 (25 * q + j) = G q j) ∧ K2 (25 * q + 24) = 0 := fun q hq => by
  have h := (hK q hq).1 hq
  refine ⟨fun j hj => b_ext fun t ht => Bool.eq_iff_iff.mpr ((h j (by omega) t ht).trans (hG q hq j hj t ht).symm), b_eq0.mpr fun t ht => ?_⟩
  cases e : bt (K2 (25 * q + 24)) t with
  | false => rfl
  | true => exact absurd ((h 24 (by decide) t ht).mp e) (mv_row24 hO hq hd t)

def kindS (S : SA) (q : Nat) (G : Nat → Int32) : SA := (sN S, sT S, (fun j => if j = q then G else sR S j), S.2.2.2)
theorem mSync.ins {S : SA} {A1 A2 A3 A4 A5 A6 A7 K2 T1 : Nat → Int32} {z : Nat} {y : Int} (hO : aOK S) (hY : mSync S A1 A2 A3 A4 A5 A6 A7) (hz : (z : Int) ≤ sN S) (hn : sN S < 24) (hT : T1 = shU A1 (z : Int) (sN S) (z : Int)) (hK : kdI S A2 K2 (z : Int) ((z : Int) + 1) 1 4) {G : Nat → Nat → Int32} (hG : ∀ i, i < 4 → ∀ j : Nat, j < 24 → G i j = op2 (sR S i) (z : Int) 24 j) : mSync (insS S (z : Int) y G) (upd T1 z (zI y)) K2 A3 A4 A5 A6 A7 := by
  refine ⟨fun j hj => ?_, ?_, hY.2.2⟩
  · show upd T1 z (zI y) j = upd (shU (sT S) (z : Int) (sN S) (z : Int)) (z : Int).toNat (zI y) j
    rw [Int.toNat_natCast]
    by_cases c : j = z
    · subst c; rw [pk_us, pk_us]
    · rw [pk_un c, pk_un c, hT]
      unfold shU
      by_cases d : (z : Int) < j ∧ (j : Int) ≤ sN S
      · rw [if_pos d, if_pos d, hY.1 (j - 1) (by omega)]
      · rw [if_neg d, if_neg d, hY.1 j hj]
  · exact kd_rows hO hK (Or.inl ⟨rfl, hn⟩) fun q hq j hj t ht => by show bt (G q j) t = true ↔ _; rw [hG q hq j hj]; exact op2_mv hO hq hz hn hj ht
theorem mSync.rem {S : SA} {A1 A2 A3 A4 A5 A6 A7 K2 T1 : Nat → Int32} {z : Nat} (hO : aOK S) (hY : mSync S A1 A2 A3 A4 A5 A6 A7) (hz : (z : Int) < sN S) (hT : T1 = shD A1 (z : Int) (sN S - 1)) (hK : kdI S A2 K2 ((z : Int) + 1) ((z : Int) + 1) (-1) 4) : mSync (remS S (z : Int) (fun i => fa_fill (clF (sR S i) (z : Int)) (sR S i) 24)) T1 K2 A3 A4 A5 A6 A7 := by
  have hn := hO.1
  refine ⟨fun j hj => ?_, ?_, hY.2.2⟩
  · show T1 j = shD (sT S) (z : Int) (sN S - 1) j
    rw [hT]
    unfold shD
    by_cases d : (z : Int) ≤ j ∧ (j : Int) < sN S - 1
    · rw [if_pos d, if_pos d, hY.1 (j + 1) (by omega)]
    · rw [if_neg d, if_neg d, hY.1 j hj]
  · exact kd_rows hO hK (Or.inr rfl) fun q hq j hj t ht => by show bt (fa_fill (clF (sR S q) (z : Int)) (sR S q) 24 j) t = true ↔ _; rw [fa_fill_in hj]; exact clF_mv hO hq hz hj ht
theorem aOK.ins {S : SA} (hO : aOK S) {z : Nat} {y : Int} (hz : (z : Int) ≤ sN S) (hn : sN S < 24) (hy : 0 ≤ y ∧ y < 6) {G : Nat → Nat → Int32} (hG : ∀ i, i < 4 → ∀ j : Nat, j < 24 → G i j = op2 (sR S i) (z : Int) 24 j) : aOK (insS S (z : Int) y G) := by
  have h0 := hO.1
  refine ⟨by show 0 ≤ sN S + 1 ∧ sN S + 1 ≤ 24; omega, fun j hj => ?_, fun q hq j hj t ht hb => ?_, hO.2.2.2⟩
  · have hj : (j : Int) < sN S + 1 := hj
    show ∃ y9 : Nat, y9 < 6 ∧ upd (shU (sT S) (z : Int) (sN S) (z : Int)) (z : Int).toNat (zI y) j = zI (y9 : Int)
    rw [Int.toNat_natCast]
    by_cases c : j = z
    · subst c; exact ⟨y.toNat, by omega, by rw [pk_us, Int.toNat_of_nonneg hy.1]⟩
    · rw [pk_un c]
      unfold shU
      by_cases d : (z : Int) < j ∧ (j : Int) ≤ sN S
      · rw [if_pos d]; exact hO.2.1 (j - 1) (by omega)
      · rw [if_neg d]; exact hO.2.1 j (by omega)
  · have hb : bt (G q j) t = true := hb
    rw [hG q hq j hj, op2_mv hO hq hz hn hj ht] at hb
    obtain ⟨x, y9, h1, h2, h3, h4⟩ := hb
    have := hO.2.2.1 q hq x h1.1 y9 h1.2.1 h1.2.2
    refine ⟨h4, ?_⟩
    show (t : Int) ≤ sN S + 1
    by_cases c : (z : Int) + 1 ≤ y9
    · rw [mvF_t c] at h3; omega
    · rw [mvF_f c] at h3; omega
theorem aOK.rem {S : SA} (hO : aOK S) {z : Nat} (hz : (z : Int) < sN S) : aOK (remS S (z : Int) (fun i => fa_fill (clF (sR S i) (z : Int)) (sR S i) 24)) := by
  have h0 := hO.1
  refine ⟨by show 0 ≤ sN S - 1 ∧ sN S - 1 ≤ 24; omega, fun j hj => ?_, fun q hq j hj t ht hb => ?_, hO.2.2.2⟩
  · have hj : (j : Int) < sN S - 1 := hj
    show ∃ y9 : Nat, y9 < 6 ∧ shD (sT S) (z : Int) (sN S - 1) j = zI (y9 : Int)
    unfold shD
    by_cases d : (z : Int) ≤ j ∧ (j : Int) < sN S - 1
    · rw [if_pos d]; exact hO.2.1 (j + 1) (by omega)
    · rw [if_neg d]; exact hO.2.1 j (by omega)
  · have hb : bt (fa_fill (clF (sR S q) (z : Int)) (sR S q) 24 j) t = true := hb
    rw [fa_fill_in hj, clF_mv hO hq hz hj ht] at hb
    obtain ⟨x, y9, h1, h2, h3, h4⟩ := hb
    have := hO.2.2.1 q hq x h1.1 y9 h1.2.1 h1.2.2
    refine ⟨h4, ?_⟩
    show (t : Int) ≤ sN S - 1
    by_cases c : (z : Int) + 1 ≤ y9
    · rw [mvF_t c] at h3; omega
    · rw [mvF_f c] at h3; omega
theorem aOK_setK {S : SA} (hO : aOK S) {q : Nat} {G : Nat → Int32} (hG : rowsOK (sN S) G) : aOK (kindS S q G) := by
  refine ⟨hO.1, hO.2.1, fun p hp => ?_, hO.2.2.2⟩
  show rowsOK (sN S) (if p = q then G else sR S p)
  by_cases c : p = q
  · rw [if_pos c]; exact hG
  · rw [if_neg c]; exact hO.2.2.1 p hp
theorem add_ok {S : SA} (hO : aOK S) {q y x : Nat} (hq : q < 4) (h : y < x ∧ (x : Int) ≤ sN S) : rowsOK (sN S) (addR (sR S q) (y : Int) (x : Int)) := fun j hj t ht hb => by
  have hn := hO.1
  rw [addR_in (by omega), Int.toNat_natCast, Int.toNat_natCast] at hb
  by_cases c : j = y
  · subst c
    rw [pk_us, b_or, Bool.or_eq_true, bt_pw (by omega), decide_eq_true_eq] at hb
    rcases hb with hb | hb
    · exact hO.2.2.1 q hq j hj t ht hb
    · omega
  · rw [pk_un c] at hb
    exact hO.2.2.1 q hq j hj t ht hb
theorem drop_ok {S : SA} (hO : aOK S) {q : Nat} (hq : q < 4) (y x : Int) : rowsOK (sN S) (dropR (sR S q) y x) := fun j hj t ht hb => by
  have h0 := hO.2.2.1 q hq j hj t ht
  by_cases c : hasB (sR S q) y x = true
  · have hr := (hasB_rng c).1
    rw [dropR_t c, setR_in ⟨hr.1, hr.2.1⟩] at hb
    by_cases d : j = y.toNat
    · subst d
      rw [pk_us, rowAt_in ⟨hr.1, hr.2.1⟩, b_and, Bool.and_eq_true] at hb
      exact h0 hb.1
    · rw [pk_un d] at hb; exact h0 hb
  · rw [dropR_f (Bool.eq_false_iff.mpr c)] at hb; exact h0 hb
