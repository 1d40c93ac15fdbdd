section SEM
variable {g g1 g2 : Nat → Int32} {A B : Nat → Nat → Prop}
theorem Rp.fill {F : Nat → Int32} {P : Nat → Nat → Prop} (h : ∀ z, z < 24 → ∀ t, t < 32 → (bt (F z) t = true ↔ P z t)) (g : Nat → Int32) : Rp (fa_fill F g 24) P := fun z hz t ht => by
  rw [fa_fill_in hz]
  exact h z hz t ht
theorem msk (h1 : Rp g1 A) (hA : Rg 24 A) {z t : Nat} (hz : z < 24) (ht : t < 32) {x : Int32} {b : Bool} {C : Prop} (hx : t ≤ 24 → z < t → bt x t = b) (hC : t ≤ 24 → z < t → (b = true ↔ C)) : bt (rowAt g1 (z : Int) &&& x) t = true ↔ A z t ∧ C := by
  rw [b_and, Bool.and_eq_true, h1.row hz ht]
  constructor
  · rintro ⟨a, c⟩
    obtain ⟨q1, q2⟩ := hA z t a
    rw [hx q2 q1] at c
    exact ⟨a, (hC q2 q1).mp c⟩
  · rintro ⟨a, c⟩
    obtain ⟨q1, q2⟩ := hA z t a
    rw [hx q2 q1]
    exact ⟨a, (hC q2 q1).mpr c⟩
theorem not_t {b : Bool} {C : Prop} (h : b = true ↔ C) : ((!b) = true ↔ ¬ C) := by
  rw [← h]; cases b <;> simp
theorem sg_0 (h1 : Rp g1 A) (h2 : Rp g2 B) (g : Nat → Int32) : Rp (fa_fill (grF 0 g1 g2) g 24) (sPa 0 A B) := Rp.fill (fun z hz t ht => by
  show bt (rowAt g1 (z : Int) ||| rowAt g2 (z : Int)) t = true ↔ (A z t ∨ B z t)
  rw [b_or, Bool.or_eq_true, h1.row hz ht, h2.row hz ht]) g
theorem sg_1 (h1 : Rp g1 A) (h2 : Rp g2 B) (g : Nat → Int32) : Rp (fa_fill (grF 1 g1 g2) g 24) (sPa 1 A B) := Rp.fill (fun z hz t ht => by
  show bt (rowAt g1 (z : Int) &&& rowAt g2 (z : Int)) t = true ↔ (A z t ∧ B z t)
  rw [b_and, Bool.and_eq_true, h1.row hz ht, h2.row hz ht]) g
theorem sg_2 (h1 : Rp g1 A) (h2 : Rp g2 B) (g : Nat → Int32) : Rp (fa_fill (grF 2 g1 g2) g 24) (sPa 2 A B) := Rp.fill (fun z hz t ht => by
  show bt (rowAt g1 (z : Int) &&& (rowAt g2 (z : Int) ^^^ zI (-1))) t = true ↔ (A z t ∧ ¬ B z t)
  rw [b_and, Bool.and_eq_true, h1.row hz ht, b_not ht, not_t (h2.row hz ht)]) g
theorem gh_w (h2 : Rp g2 B) (hB : Rg 24 B) {z t : Nat} (hz : z < 24) (ht : t ≤ 24) : (decide ((nrF g2 (24 - z) : Int) ≤ (t : Int)) = true ↔ sIn B z t) := by
  rw [decide_eq_true_eq, Int.ofNat_le, nr_le h2 hB ht (24 - z) (by omega)]
  unfold sIn
  rw [show 24 - (24 - z) = z by omega]
theorem gh_3 (h1 : Rp g1 A) (hA : Rg 24 A) (h2 : Rp g2 B) (hB : Rg 24 B) (g : Nat → Int32) : Rp (fa_fill (ghF true g1 g2) g 24) (sPa 3 A B) := Rp.fill (fun z hz t ht => msk h1 hA hz ht (fun q _ => bt_onM q) (fun q _ => gh_w h2 hB hz q)) g
theorem gh_4 (h1 : Rp g1 A) (hA : Rg 24 A) (h2 : Rp g2 B) (hB : Rg 24 B) (g : Nat → Int32) : Rp (fa_fill (ghF false g1 g2) g 24) (sPa 4 A B) := Rp.fill (fun z hz t ht => msk h1 hA hz ht (fun q _ => (b_not ht).trans (congrArg (fun x => !x) (bt_onM q))) (fun q _ => not_t (gh_w h2 hB hz q))) g
theorem gl_w (h2 : Rp g2 B) (hB : Rg 24 B) {z t : Nat} (hz : z < 24) (ht : z < t) : (decide ((t : Int) ≤ (frF g2 (z + 1) : Int)) = true ↔ sRd B z t) := by
  rw [decide_eq_true_eq, Int.ofNat_le, fr_ge h2 hB (by omega) (z + 1) (by omega)]
  unfold sRd
  constructor
  · rintro ⟨x, y, a, b, c⟩; exact ⟨x, y, a, by omega, c⟩
  · rintro ⟨x, y, a, b, c⟩; exact ⟨x, y, a, by omega, c⟩
theorem gl_5 (h1 : Rp g1 A) (hA : Rg 24 A) (h2 : Rp g2 B) (hB : Rg 24 B) (g : Nat → Int32) : Rp (fa_fill (glF true g1 g2) g 24) (sPa 5 A B) := Rp.fill (fun z hz t ht => msk h1 hA hz ht (fun q _ => bt_upM q) (fun _ q => gl_w h2 hB hz q)) g
theorem gl_6 (h1 : Rp g1 A) (hA : Rg 24 A) (h2 : Rp g2 B) (hB : Rg 24 B) (g : Nat → Int32) : Rp (fa_fill (glF false g1 g2) g 24) (sPa 6 A B) := Rp.fill (fun z hz t ht => msk h1 hA hz ht (fun q _ => (b_not ht).trans (congrArg (fun x => !x) (bt_upM q))) (fun _ q => not_t (gl_w h2 hB hz q))) g
theorem ga_7 (h1 : Rp g1 A) (hA : Rg 24 A) (h2 : Rp g2 B) (hB : Rg 24 B) (g : Nat → Int32) : Rp (fa_fill (gaF g1 g2) g 24) (sPa 7 A B) := Rp.fill (fun z hz t ht => msk h1 hA hz ht (fun q _ => bt_upM q) (fun q q2 => by
  rw [decide_eq_true_eq, lb_ge h2 hB (by omega) 24 (by omega)]
  constructor
  · rintro ⟨x, y, a, b, c⟩; exact ⟨x, y, a, by omega⟩
  · rintro ⟨x, y, a, b⟩
    have := hB x y a
    exact ⟨x, y, a, by omega, by omega⟩)) g
theorem gb_8 (h1 : Rp g1 A) (h2 : Rp g2 B) (hB : Rg 24 B) (g : Nat → Int32) : Rp (fa_fill (gbF g1 g2) g 24) (sPa 8 A B) := Rp.fill (fun z hz t ht => by
  show bt (if feN g2 24 ≤ z then rowAt g1 (z : Int) else zI 0) t = true ↔ (A z t ∧ sBe B z)
  have hw : feN g2 24 ≤ z ↔ sBe B z := by
    rw [fe_le h2 hB (by omega) 24 (by omega)]
    constructor
    · rintro ⟨x, y, a, b, c⟩; exact ⟨x, y, a, c⟩
    · rintro ⟨x, y, a, b⟩
      have := hB x y a
      exact ⟨x, y, a, by omega, b⟩
  by_cases c : feN g2 24 ≤ z
  · rw [if_pos c, h1.row hz ht]
    exact ⟨fun a => ⟨a, hw.mp c⟩, fun a => a.1⟩
  · rw [if_neg c, b_z0]
    exact ⟨fun a => absurd a (by decide), fun a => absurd (hw.mpr a.2) c⟩) g
theorem ki_s (h : Rp g A) (hA : Rg 24 A) (g0 : Nat → Int32) : Rp (fa_fill (kiF g) g0 24) (sIi A) := Rp.fill (fun z hz t ht => by
  unfold kiF
  have hn := nrF_le g (23 - z)
  constructor
  · intro h1
    by_cases c : lowE (g z) (z : Int) < nrF g (23 - z)
    · rw [if_pos c, bt_pw (by omega), decide_eq_true_eq] at h1
      have hl := low_le h hA (n := z) (e := t) hz (by omega)
      obtain ⟨y, a, b⟩ := hl.mp (by omega)
      have hy := (low_le h hA (n := z) (e := y) hz (by omega)).mpr ⟨y, a, Nat.le_refl _⟩
      obtain rfl : y = t := by omega
      refine ⟨a, ?_⟩
      rintro ⟨x, y2, a2, b2, c2, d2⟩
      by_cases e : x = z
      · subst e
        have := (low_le h hA (n := x) (e := y2) hz (by omega)).mpr ⟨y2, a2, Nat.le_refl _⟩
        exact d2 ⟨rfl, by omega⟩
      · have := (nr_le h hA (e := y2) (by omega) (23 - z) (by omega)).mpr ⟨x, y2, a2, by omega, Nat.le_refl _⟩
        omega
    · rw [if_neg c, b_z0] at h1
      cases h1
  · rintro ⟨a, b⟩
    have q := hA z t a
    have hl := (low_le h hA (n := z) (e := t) hz (by omega)).mpr ⟨t, a, Nat.le_refl _⟩
    obtain ⟨y, a2, b2⟩ := (low_le h hA (n := z) (e := lowE (g z) (z : Int)) hz (by omega)).mp (Nat.le_refl _)
    have he : y = t := Classical.byContradiction fun e => b ⟨z, y, a2, Nat.le_refl _, by omega, fun e2 => e e2.2⟩
    have hn2 : ¬ nrF g (23 - z) ≤ t := fun e => by
      obtain ⟨x, y3, a3, b3, c3⟩ := (nr_le h hA (e := t) (by omega) (23 - z) (by omega)).mp e
      exact b ⟨x, y3, a3, by omega, c3, fun e2 => by omega⟩
    rw [if_pos (by omega), bt_pw (by omega), decide_eq_true_eq]
    omega) g0
theorem ko_s (h : Rp g A) (hA : Rg 24 A) (g0 : Nat → Int32) : Rp (fa_fill (koF g) g0 24) (sOo A) := Rp.fill (fun z hz t ht => by
  unfold koF
  have hn := hiE_le (g z) 24
  constructor
  · intro h1
    by_cases c : frF g z < hiE (g z) 24
    · rw [if_pos c, bt_pw (by omega), decide_eq_true_eq] at h1
      obtain ⟨y, a, b⟩ := (hi_ge h hA (n := z) (e := t) hz (by omega)).mp (by omega)
      have q := hA z y a
      have hy := (hi_ge h hA (n := z) (e := y) hz (by omega)).mpr ⟨y, a, Nat.le_refl _⟩
      obtain rfl : y = t := by omega
      refine ⟨a, ?_⟩
      rintro ⟨x, y2, a2, b2, c2, d2⟩
      have q2 := hA x y2 a2
      by_cases e : x = z
      · subst e
        have := (hi_ge h hA (n := x) (e := y2) hz (by omega)).mpr ⟨y2, a2, Nat.le_refl _⟩
        exact d2 ⟨rfl, by omega⟩
      · have := (fr_ge h hA (e := y2) (by omega) z (by omega)).mpr ⟨x, y2, a2, by omega, Nat.le_refl _⟩
        omega
    · rw [if_neg c, b_z0] at h1
      cases h1
  · rintro ⟨a, b⟩
    have q := hA z t a
    have hl := (hi_ge h hA (n := z) (e := t) hz (by omega)).mpr ⟨t, a, Nat.le_refl _⟩
    obtain ⟨y, a2, b2⟩ := (hi_ge h hA (n := z) (e := hiE (g z) 24) hz (by omega)).mp (Nat.le_refl _)
    have q2 := hA z y a2
    have he : y = t := Classical.byContradiction fun e => b ⟨z, y, a2, Nat.le_refl _, by omega, fun e2 => e e2.2⟩
    have hn2 : ¬ t ≤ frF g z := fun e => by
      obtain ⟨x, y3, a3, b3, c3⟩ := (fr_ge h hA (e := t) (by omega) z (by omega)).mp e
      exact b ⟨x, y3, a3, by omega, c3, fun e2 => by omega⟩
    rw [if_pos (by omega), bt_pw (by omega), decide_eq_true_eq]
    omega) g0
end SEM
