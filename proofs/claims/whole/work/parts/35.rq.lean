section CN
variable {R G : Nat → Int32} {i : Nat} {P : Nat → Nat → Prop}
theorem rq_row (h : Rq R i P) (hG : Rp G P) {z : Nat} (hz : z < 24) : R (25 * i + z) = G z := b_ext fun t ht => Bool.eq_iff_iff.mpr ((h z (by omega) t ht).trans (hG z hz t ht).symm)
theorem rq_24 (h : Rq R i P) (hP : Rg 24 P) : R (25 * i + 24) = 0 := b_eq0.mpr fun t ht => by
  cases e : bt (R (25 * i + 24)) t with
  | false => rfl
  | true => have := hP 24 t ((h 24 (by decide) t ht).mp e); omega
theorem rp_hi (hG : Rp G P) (hP : Rg 24 P) {z t : Nat} (hz : z < 24) (ht : ¬ (z < t ∧ t ≤ 24)) (h2 : t < 32) : bt (G z) t = false := by
  cases e : bt (G z) t with
  | false => rfl
  | true => exact absurd (hP z t ((hG z hz t h2).mp e)) ht
theorem ct25 {x : Int32} (h : ∀ q, 25 ≤ q → q < 32 → bt x q = false) : fb_ct (bt x) 25 = pc1 x := (ct_flat (by decide) h).symm
theorem ct_0 : ∀ n, fb_ct (bt 0) n = 0
  | 0 => rfl
  | n + 1 => by rw [fb_ct_succ, ct_0 n, b_0]; rfl
theorem cr_size (h : Rq R i P) (hP : Rg 24 P) (hG : Rp G P) : fb_sm (fun j => fb_ct (bt (R (25 * i + j))) 25) 25 = sizeR G := by
  rw [fb_sm_succ, rq_24 h hP, ct_0, Nat.add_zero]
  exact sm_cong fun j hj => by rw [rq_row h hG hj]; exact ct25 fun q h1 h2 => rp_hi hG hP hj (by omega) h2
theorem ov_eq (h : Rq R i P) (hP : Rg 24 P) (hG : Rp G P) {q : Nat} (hq : q < 24) : fb_sm (fun j => fb_ct (bt (R (25 * i + j) &&& onM ((q : Int) + 1))) 25) (q + 1) = ovN G (q : Int) := by
  unfold ovN
  rw [Int.toNat_natCast]
  exact sm_cong fun j hj => by
    rw [rq_row h hG (by omega), rowAt_in (by omega), Int.toNat_natCast]
    exact ct25 fun t h1 h2 => by rw [b_and, rp_hi hG hP (by omega) (by omega) h2]; rfl
theorem ov_pos (hP : Rg 24 P) (hG : Rp G P) {q : Nat} (hq : q < 24) : 0 < ovN G (q : Int) ↔ ∃ z t, P z t ∧ z ≤ q ∧ q < t := by
  unfold ovN
  rw [Int.toNat_natCast]
  constructor
  · intro h
    have h2 : ∃ j, j < q + 1 ∧ 0 < pc1 (rowAt G (j : Int) &&& onM ((q : Int) + 1)) := Classical.byContradiction fun hn => by
      have : fb_sm (fun j => pc1 (rowAt G (j : Int) &&& onM ((q : Int) + 1))) (q + 1) ≤ (q + 1) * 0 := fb_sm_bound fun j hj => Nat.le_of_not_lt fun h3 => hn ⟨j, hj, h3⟩
      omega
    obtain ⟨j, hj, h3⟩ := h2
    obtain ⟨t, ht, hb⟩ := fb_ct_pos.mp h3
    rw [b_and, Bool.and_eq_true, rowAt_in (by omega), Int.toNat_natCast] at hb
    have h4 := (hG j (by omega) t ht).mp hb.1
    have h5 := hP j t h4
    have h6 := hb.2
    rw [show ((q : Int) + 1) = ((q + 1 : Nat) : Int) by omega, mo_on3 (q + 1) (by omega) t ht, decide_eq_true_eq] at h6
    exact ⟨j, t, h4, by omega, by omega⟩
  · rintro ⟨z, t, h1, h2, h3⟩
    have h4 := hP z t h1
    have h5 : 0 < pc1 (rowAt G (z : Int) &&& onM ((q : Int) + 1)) := fb_ct_pos.mpr ⟨t, by omega, by
      rw [b_and, rowAt_in (by omega), Int.toNat_natCast, (hG z (by omega) t (by omega)).mpr h1, show ((q : Int) + 1) = ((q + 1 : Nat) : Int) by omega, mo_on3 (q + 1) (by omega) t (by omega), decide_eq_true (show q + 1 ≤ t by omega)]
      rfl⟩
    have := fb_sm_part (fun j => pc1 (rowAt G (j : Int) &&& onM ((q : Int) + 1))) (show z < q + 1 by omega)
    have h6 : 0 < (fun j : Nat => pc1 (rowAt G (j : Int) &&& onM ((q : Int) + 1))) z := h5
    omega
theorem ov_0 {n : Nat} (hn : Rg n P) (hP : Rg 24 P) (hG : Rp G P) {q : Nat} (hq : q < 24) (h : n ≤ q) : ovN G (q : Int) = 0 := by
  have := mt (ov_pos hP hG hq).mp (fun ⟨z, t, a, b, c⟩ => by have := hn z t a; omega)
  omega
theorem cov_n {n : Nat} (hn : Rg n P) (h24 : n ≤ 24) (hP : Rg 24 P) (hG : Rp G P) : fb_ct (fun j => decide (0 < ovN G (j : Int))) n = covN G := by
  unfold covN
  exact (ct_flat h24 fun q h1 h2 => by rw [ov_0 hn hP hG h2 h1]; rfl).symm
theorem mx_flat {F : Nat → Nat} {m : Nat} : ∀ {n : Nat}, m ≤ n → (∀ q, m ≤ q → q < n → F q = 0) → mxN F n = mxN F m
  | 0, h, _ => by rw [show m = 0 by omega]
  | n + 1, h, h2 => by
    by_cases c : m = n + 1
    · rw [c]
    · show max (mxN F n) (F n) = _
      rw [mx_flat (by omega) (fun q h3 h4 => h2 q h3 (by omega)), h2 n (by omega) (by omega)]
      omega
theorem dep_n {n : Nat} (hn : Rg n P) (h24 : n ≤ 24) (hP : Rg 24 P) (hG : Rp G P) : mxN (fun j => ovN G (j : Int)) n = depN G := by
  unfold depN
  exact (mx_flat h24 fun q h1 h2 => ov_0 hn hP hG h2 h1).symm
theorem lin_b (hG : Rp G P) (hP : Rg 24 P) {m q : Nat} (hm : m < 24) (hq : q < 25) : linB G (25 * m + q) = bt (G m) q := by
  rw [linB_at G hq]
  exact Bool.eq_iff_iff.mpr ((has_i hG hP m q).trans (hG m hm q (by omega)).symm)
theorem lin_rows (hG : Rp G P) (hP : Rg 24 P) : ∀ m, m ≤ 24 → fb_ct (linB G) (25 * m) = fb_sm (fun j => pc1 (G j)) m
  | 0, _ => rfl
  | m + 1, h => by
    rw [show 25 * (m + 1) = 25 * m + 25 by omega, fb_ct_split, lin_rows hG hP m (by omega), fb_sm_succ]
    congr 1
    rw [fb_ct_cong (q := bt (G m)) fun k hk => lin_b hG hP (by omega) hk]
    exact ct25 fun t h1 h2 => rp_hi hG hP (by omega) (by omega) h2
theorem size_lin (hG : Rp G P) (hP : Rg 24 P) : sizeR G = fb_ct (linB G) 600 := (lin_rows hG hP 24 (by decide)).symm
theorem lin_lt (hG : Rp G P) (hP : Rg 24 P) {q : Nat} (hq : q < 600) (h : linB G q = true) : fb_ct (linB G) q < sizeR G := by
  rw [size_lin hG hP]
  have h1 := fb_ct_mono (linB G) (show q + 1 ≤ 600 by omega)
  rw [fb_ct_succ, h] at h1
  have : (if true = true then 1 else 0) = 1 := rfl
  rw [this] at h1
  omega
theorem lin_kth (hG : Rp G P) (hP : Rg 24 P) {y : Int} (h : 0 ≤ y ∧ y < (sizeR G : Int)) : ∃ a b : Nat, a < 24 ∧ b ≤ 24 ∧ hasB G (a : Int) (b : Int) = true ∧ ((fb_ct (linB G) (25 * a + b) : Nat) : Int) = y := by
  rw [size_lin hG hP] at h
  obtain ⟨q, h1, h2, h3⟩ := fb_ct_kth (show y.toNat < fb_ct (linB G) 600 by omega)
  refine ⟨q / 25, q % 25, by omega, by omega, h2, ?_⟩
  rw [show 25 * (q / 25) + q % 25 = q by omega, h3]
  omega
theorem lin_no (hG : Rp G P) (hP : Rg 24 P) {y : Int} (h : ¬ (0 ≤ y ∧ y < (sizeR G : Int))) : ∀ q, q < 600 → linB G q = true → ((fb_ct (linB G) q : Nat) : Int) ≠ y := fun q h1 h2 => by
  have := lin_lt hG hP h1 h2
  omega
theorem rq_lin (h : Rq R i P) (hP : Rg 24 P) (hG : Rp G P) {q : Nat} (hq : q < 625) : bt (R (25 * i + q / 25)) (q % 25) = linB G q := by
  by_cases c : q / 25 = 24
  · rw [c, rq_24 h hP, b_0, linB_hi G (by omega)]
  · rw [rq_row h hG (by omega), ← lin_b hG hP (by omega) (Nat.mod_lt _ (by decide)), show 25 * (q / 25) + q % 25 = q by omega]
theorem mxI_le {F : Nat → Int} {c : Int} : ∀ {n : Nat}, mxI F n ≤ c ↔ 0 ≤ c ∧ ∀ j, j < n → F j ≤ c
  | 0 => ⟨fun h => ⟨h, fun j hj => absurd hj (Nat.not_lt_zero j)⟩, fun h => h.1⟩
  | n + 1 => by
    show max (mxI F n) (F n) ≤ c ↔ _
    rw [Int.max_le, mxI_le (n := n)]
    constructor
    · rintro ⟨⟨a, b⟩, d⟩
      refine ⟨a, fun j hj => ?_⟩
      by_cases e : j = n
      · rw [e]; exact d
      · exact b j (by omega)
    · rintro ⟨a, b⟩
      exact ⟨⟨a, fun j hj => b j (by omega)⟩, b n (by omega)⟩
def lgF (G : Nat → Int32) (q : Nat) : Int := if linB G q = true then ((q % 25 : Nat) : Int) - ((q / 25 : Nat) : Int) else 0
theorem lg_lon (hG : Rp G P) (hP : Rg 24 P) : mxI (lgF G) 625 = lonI G := by
  have key : ∀ c : Int, mxI (lgF G) 625 ≤ c ↔ lonI G ≤ c := fun c => by
    unfold lonI
    rw [mxI_le, mxI_le]
    constructor
    · rintro ⟨h0, h⟩
      refine ⟨h0, fun j hj => ?_⟩
      rw [rowAt_in (by omega), Int.toNat_natCast]
      by_cases e : hiE (G j) 24 = 0
      · omega
      · obtain ⟨y, h1, h2⟩ := (hi_ge hG hP hj (show 1 ≤ hiE (G j) 24 by omega)).mp (Nat.le_refl _)
        have h3 := hP j y h1
        have h4 := h (25 * j + y) (by omega)
        unfold lgF at h4
        rw [if_pos (by rw [lin_b hG hP hj (by omega)]; exact (hG j hj y (by omega)).mpr h1), show (25 * j + y) % 25 = y by omega, show (25 * j + y) / 25 = j by omega] at h4
        omega
    · rintro ⟨h0, h⟩
      refine ⟨h0, fun q hq => ?_⟩
      unfold lgF
      by_cases e : linB G q = true
      · rw [if_pos e]
        have e2 : hasB G ((q / 25 : Nat) : Int) ((q % 25 : Nat) : Int) = true := e
        have h1 := (has_i hG hP (q / 25) (q % 25)).mp e2
        have h2 := hP _ _ h1
        have h3 := h (q / 25) (by omega)
        rw [rowAt_in (by omega), Int.toNat_natCast] at h3
        have h4 := (hi_ge hG hP (n := q / 25) (e := q % 25) (by omega) (by omega)).mpr ⟨_, h1, Nat.le_refl _⟩
        omega
      · rw [if_neg e]; exact h0
  exact Int.le_antisymm ((key _).mpr (Int.le_refl _)) ((key _).mp (Int.le_refl _))
/-- the marks of a kind as rows -/
def sMk (S : SA) (q : Nat) (z t : Nat) : Prop := z < 24 ∧ t < 32 ∧ bt (sR S q z) t = true
theorem mk_g {S : SA} (hO : aOK S) {q : Nat} (hq : q < 4) : Rg (sN S).toNat (sMk S q) := fun z t h => by
  have := hO.2.2.1 q hq z h.1 t h.2.1 h.2.2
  omega
theorem mk_24 {S : SA} (hO : aOK S) {q : Nat} (hq : q < 4) : Rg 24 (sMk S q) := fun z t h => by
  have := hO.2.2.1 q hq z h.1 t h.2.1 h.2.2
  have := hO.1
  omega
theorem mk_p (S : SA) (q : Nat) : Rp (sR S q) (sMk S q) := fun z hz t ht => ⟨fun h => ⟨hz, ht, h⟩, fun h => h.2.2⟩
theorem mk_q {S : SA} {A1 A2 A3 A4 A5 A6 A7 : Nat → Int32} (hY : mSync S A1 A2 A3 A4 A5 A6 A7) {q : Nat} (hq : q < 4) : Rq A2 q (sMk S q) := fun z hz t ht => by
  by_cases c : z = 24
  · subst c
    rw [(hY.2.1 q hq).2, b_0]
    exact ⟨fun h => absurd h (by decide), fun h => absurd h.1 (by decide)⟩
  · rw [(hY.2.1 q hq).1 z (by omega)]
    exact ⟨fun h => ⟨by omega, ht, h⟩, fun h => h.2.2⟩
end CN
