theorem ct_pos {p : Nat → Bool} : ∀ {n : Nat}, 0 < fb_ct p n ↔ ∃ q, q < n ∧ p q = true
  | 0 => ⟨fun h => absurd h (Nat.lt_irrefl 0), fun ⟨_, h, _⟩ => absurd h (Nat.not_lt_zero _)⟩
  | n + 1 => by
    have ih := ct_pos (p := p) (n := n)
    rw [fb_ct_succ]
    by_cases c : p n = true
    · rw [if_pos c]
      exact ⟨fun _ => ⟨n, Nat.lt_succ_self n, c⟩, fun _ => by omega⟩
    · rw [if_neg c, Nat.add_zero, ih]
      constructor
      · rintro ⟨q, h1, h2⟩; exact ⟨q, by omega, h2⟩
      · rintro ⟨q, h1, h2⟩
        refine ⟨q, ?_, h2⟩
        by_cases e : q = n
        · rw [e] at h2; exact absurd h2 c
        · omega
theorem ct_one {p : Nat → Bool} {n q0 : Nat} (h0 : q0 < n) (hp : p q0 = true) : fb_ct p n = 1 ↔ ∀ q, q < n → p q = true → q = q0 := by
  constructor
  · intro h1 q hq hpq
    rcases Nat.lt_trichotomy q q0 with a | a | a
    · have h2 := ct_lt (p := p) a hpq
      have h3 := ct_lt (p := p) h0 hp
      omega
    · exact a
    · have h2 := ct_lt (p := p) a hp
      have h3 := ct_lt (p := p) hq hpq
      omega
  · intro h1
    have h2 : fb_ct p q0 = fb_ct p 0 := ct_flat (Nat.zero_le _) (fun q _ h => by
      cases e : p q with
      | false => rfl
      | true => exact absurd (h1 q (by omega) e) (by omega))
    have h3 : fb_ct p n = fb_ct p (q0 + 1) := ct_flat h0 (fun q h4 h => by
      cases e : p q with
      | false => rfl
      | true => exact absurd (h1 q h e) (by omega))
    rw [h3, fb_ct_succ, h2, if_pos hp]
    rfl
section SEM
variable {g g1 g2 : Nat → Int32} {A B : Nat → Nat → Prop}
theorem has_i (h : Rp g B) (hB : Rg 24 B) (z w : Nat) : hasB g (z : Int) (w : Int) = true ↔ B z w := by
  constructor
  · intro h1
    obtain ⟨h2, h3⟩ := hasB_rng h1
    rw [Int.toNat_natCast, Int.toNat_natCast] at h3
    exact (h z (by omega) w (by omega)).mp h3
  · intro h1
    have q := hB z w h1
    exact hasB_t (by omega) (by rw [Int.toNat_natCast, Int.toNat_natCast]; exact (h z (by omega) w (by omega)).mpr h1)
theorem cwP_i (h : Rp g B) (hB : Rg 24 B) {a b c d : Int} {x y : Nat} (hy : y < 25) : cwP g a b c d (25 * x + y) = true ↔ B x y ∧ a ≤ (x : Int) ∧ (x : Int) ≤ b ∧ c ≤ (y : Int) ∧ (y : Int) ≤ d := by
  unfold cwP
  rw [linB_at g hy, Bool.and_eq_true, decide_eq_true_eq, show (25 * x + y) / 25 = x by omega, show (25 * x + y) % 25 = y by omega, has_i h hB]
  exact ⟨fun q => ⟨q.2, q.1⟩, fun q => ⟨q.2, q.1⟩⟩
theorem cw_pos (h : Rp g B) (hB : Rg 24 B) {a b c d : Int} : 0 < cwN g a b c d ↔ ∃ x y : Nat, B x y ∧ a ≤ (x : Int) ∧ (x : Int) ≤ b ∧ c ≤ (y : Int) ∧ (y : Int) ≤ d := by
  unfold cwN
  rw [ct_pos]
  constructor
  · rintro ⟨q, h1, h2⟩
    rw [show q = 25 * (q / 25) + q % 25 by omega] at h2
    exact ⟨_, _, (cwP_i h hB (by omega)).mp h2⟩
  · rintro ⟨x, y, h1, h2⟩
    have q := hB x y h1
    exact ⟨25 * x + y, by omega, (cwP_i h hB (by omega)).mpr ⟨h1, h2⟩⟩
theorem cw_one (h : Rp g B) (hB : Rg 24 B) {a b c d : Int} {z w : Nat} (h0 : B z w) (hr : a ≤ (z : Int) ∧ (z : Int) ≤ b ∧ c ≤ (w : Int) ∧ (w : Int) ≤ d) : cwN g a b c d = 1 ↔ ¬ ∃ x y : Nat, B x y ∧ (a ≤ (x : Int) ∧ (x : Int) ≤ b ∧ c ≤ (y : Int) ∧ (y : Int) ≤ d) ∧ ¬ (x = z ∧ y = w) := by
  have q0 := hB z w h0
  unfold cwN
  rw [ct_one (q0 := 25 * z + w) (by omega) ((cwP_i h hB (by omega)).mpr ⟨h0, hr⟩)]
  constructor
  · rintro h1 ⟨x, y, h2, h3, h4⟩
    have q := hB x y h2
    have := h1 (25 * x + y) (by omega) ((cwP_i h hB (by omega)).mpr ⟨h2, h3⟩)
    exact h4 (by omega)
  · intro h1 q hq hp
    rw [show q = 25 * (q / 25) + q % 25 by omega] at hp
    obtain ⟨h2, h3⟩ := (cwP_i h hB (by omega)).mp hp
    refine Classical.byContradiction fun e => h1 ⟨_, _, h2, h3, fun e2 => e ?_⟩
    omega
theorem sp_i (h : Rp g A) (hA : Rg 24 A) (z w : Nat) : spB g (z : Int) (w : Int) = true ↔ sIi A z w := by
  unfold spB sIi
  rw [Bool.and_eq_true, has_i h hA, decide_eq_true_eq]
  constructor
  · rintro ⟨h1, h2⟩
    have q := hA z w h1
    refine ⟨h1, ?_⟩
    rintro ⟨x, y, h3, h4, h5, h6⟩
    have q2 := hA x y h3
    exact (cw_one h hA h1 (by omega)).mp h2 ⟨x, y, h3, by omega, h6⟩
  · rintro ⟨h1, h2⟩
    have q := hA z w h1
    refine ⟨h1, (cw_one h hA h1 (by omega)).mpr ?_⟩
    rintro ⟨x, y, h3, h4, h5⟩
    exact h2 ⟨x, y, h3, by omega, by omega, h5⟩
theorem on_i (h : Rp g A) (hA : Rg 24 A) (z w : Nat) : onB true g (z : Int) (w : Int) = true ↔ sOo A z w := by
  unfold onB sOo
  rw [if_pos rfl, Bool.and_eq_true, has_i h hA, decide_eq_true_eq]
  constructor
  · rintro ⟨h1, h2⟩
    have q := hA z w h1
    refine ⟨h1, ?_⟩
    rintro ⟨x, y, h3, h4, h5, h6⟩
    have q2 := hA x y h3
    exact (cw_one h hA h1 (by omega)).mp h2 ⟨x, y, h3, by omega, h6⟩
  · rintro ⟨h1, h2⟩
    have q := hA z w h1
    refine ⟨h1, (cw_one h hA h1 (by omega)).mpr ?_⟩
    rintro ⟨x, y, h3, h4, h5⟩
    exact h2 ⟨x, y, h3, by omega, by omega, h5⟩
theorem on_i0 (h : Rp g A) (hA : Rg 24 A) (z w : Nat) : onB false g (z : Int) (w : Int) = true ↔ sIi A z w := sp_i h hA z w
theorem ij_i (h1 : Rp g1 A) (hA : Rg 24 A) (h2 : Rp g2 B) (hB : Rg 24 B) {gp : Int} (hg : 0 ≤ gp) {z w : Nat} (hw : w ≤ 24) : ijB g1 g2 gp (z : Int) (w : Int) = true ↔ sJn A B gp.toNat z w := by
  unfold ijB sJn
  rw [anyN_iff]
  constructor
  · rintro ⟨y, hy, hp⟩
    unfold ijP at hp
    rw [Bool.and_eq_true, Bool.and_eq_true, decide_eq_true_eq, decide_eq_true_eq, has_i h1 hA, cw_pos h2 hB] at hp
    obtain ⟨a, b, x, y2, c, d1, d2, d3, d4⟩ := hp
    obtain rfl : y2 = w := by omega
    exact ⟨y, x, b, c, by omega, by omega⟩
  · rintro ⟨y, x, a, b, c, d⟩
    have q1 := hA z y a
    have q2 := hB x w b
    refine ⟨y, by omega, ?_⟩
    unfold ijP
    rw [Bool.and_eq_true, Bool.and_eq_true, decide_eq_true_eq, decide_eq_true_eq, has_i h1 hA, cw_pos h2 hB]
    exact ⟨by omega, a, x, w, b, by omega, by omega, by omega, by omega⟩
theorem jnA_i (h1 : Rp g1 A) (hA : Rg 24 A) (h2 : Rp g2 B) (hB : Rg 24 B) {gp : Int} (hg : 0 ≤ gp) {z t : Nat} (ht : t < 32) : ∀ n, z + n ≤ 23 → (bt (jnA g1 g2 gp z n) t = true ↔ ∃ y x, A z y ∧ B x t ∧ y ≤ x ∧ x ≤ y + gp.toNat ∧ x < z + 1 + n)
  | 0, _ => by
    unfold jnA
    rw [b_z0]
    constructor
    · intro h; cases h
    · rintro ⟨y, x, a, b, c, d, e⟩
      have := hA z y a
      omega
  | n + 1, hn => by
    have ih := jnA_i (z := z) h1 hA h2 hB hg ht n (by omega)
    have hm : ¬ (rowAt g1 (z : Int) &&& (upM ((z : Int) + 1 + n) &&& onM ((z : Int) + 1 + n - gp)) = 0) ↔ ∃ y, A z y ∧ y ≤ z + 1 + n ∧ z + 1 + n ≤ y + gp.toNat := by
      rw [b_ne0]
      constructor
      · rintro ⟨y, hy, hp⟩
        rw [b_and, Bool.and_eq_true, h1.row (by omega) hy] at hp
        obtain ⟨a, b⟩ := hp
        have q := hA z y a
        rw [b_and, Bool.and_eq_true, bt_upM (by omega), bt_onM (by omega), decide_eq_true_eq, decide_eq_true_eq] at b
        exact ⟨y, a, by omega, by omega⟩
      · rintro ⟨y, a, b, c⟩
        have q := hA z y a
        refine ⟨y, by omega, ?_⟩
        rw [b_and, Bool.and_eq_true, h1.row (by omega) (by omega), b_and, Bool.and_eq_true, bt_upM (by omega), bt_onM (by omega), decide_eq_true_eq, decide_eq_true_eq]
        exact ⟨a, by omega, by omega⟩
    unfold jnA
    by_cases c : rowAt g1 (z : Int) &&& (upM ((z : Int) + 1 + n) &&& onM ((z : Int) + 1 + n - gp)) = 0
    · rw [if_pos c, ih]
      constructor
      · rintro ⟨y, x, a, b, d, e, f⟩; exact ⟨y, x, a, b, d, e, by omega⟩
      · rintro ⟨y, x, a, b, d, e, f⟩
        refine ⟨y, x, a, b, d, e, ?_⟩
        by_cases q : x = z + 1 + n
        · exact absurd c (hm.mpr ⟨y, a, by omega, by omega⟩)
        · omega
    · rw [if_neg c, b_or, Bool.or_eq_true, ih, show ((z : Int) + 1 + (n : Int)) = ((z + 1 + n : Nat) : Int) by omega, h2.row (by omega) ht]
      constructor
      · rintro (⟨y, x, a, b, d, e, f⟩ | b)
        · exact ⟨y, x, a, b, d, e, by omega⟩
        · obtain ⟨y, a, d, e⟩ := hm.mp c
          exact ⟨y, z + 1 + n, a, b, d, e, by omega⟩
      · rintro ⟨y, x, a, b, d, e, f⟩
        by_cases q : x = z + 1 + n
        · exact Or.inr (q ▸ b)
        · exact Or.inl ⟨y, x, a, b, d, e, by omega⟩
theorem jn_s (h1 : Rp g1 A) (hA : Rg 24 A) (h2 : Rp g2 B) (hB : Rg 24 B) {gp : Int} (hg : 0 ≤ gp) (g : Nat → Int32) : Rp (fa_fill (jnF g1 g2 gp) g 24) (sJn A B gp.toNat) := Rp.fill (fun z hz t ht => by
  unfold jnF sJn
  rw [jnA_i h1 hA h2 hB hg ht (23 - z) (by omega)]
  constructor
  · rintro ⟨y, x, a, b, d, e, f⟩; exact ⟨y, x, a, b, d, e⟩
  · rintro ⟨y, x, a, b, d, e⟩
    have q := hB x t b
    exact ⟨y, x, a, b, d, e, by omega⟩) g
end SEM
