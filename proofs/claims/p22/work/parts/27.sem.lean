/-! sets of regions as relations, and rows that tell them -/
def Rp (r : Nat → Int32) (P : Nat → Nat → Prop) : Prop := ∀ z, z < 24 → ∀ t, t < 32 → (bt (r z) t = true ↔ P z t)
def Rg (n : Nat) (P : Nat → Nat → Prop) : Prop := ∀ z t, P z t → z < t ∧ t ≤ n
def sJn (A B : Nat → Nat → Prop) (gap : Nat) (z t : Nat) : Prop := ∃ y x, A z y ∧ B x t ∧ y ≤ x ∧ x ≤ y + gap
def sIn (B : Nat → Nat → Prop) (z t : Nat) : Prop := ∃ x y, B x y ∧ z ≤ x ∧ y ≤ t
def sRd (B : Nat → Nat → Prop) (z t : Nat) : Prop := ∃ x y, B x y ∧ x ≤ z ∧ t ≤ y
def sAh (B : Nat → Nat → Prop) (t : Nat) : Prop := ∃ x y, B x y ∧ t ≤ x
def sBe (B : Nat → Nat → Prop) (z : Nat) : Prop := ∃ x y, B x y ∧ y ≤ z
def sIi (A : Nat → Nat → Prop) (z t : Nat) : Prop := A z t ∧ ¬ ∃ x y, A x y ∧ z ≤ x ∧ y ≤ t ∧ ¬ (x = z ∧ y = t)
def sOo (A : Nat → Nat → Prop) (z t : Nat) : Prop := A z t ∧ ¬ ∃ x y, A x y ∧ x ≤ z ∧ t ≤ y ∧ ¬ (x = z ∧ y = t)
def sPa (w : Nat) (A B : Nat → Nat → Prop) (z t : Nat) : Prop := if w = 0 then A z t ∨ B z t else A z t ∧ (if w = 1 then B z t else if w = 2 then ¬ B z t else if w = 3 then sIn B z t else if w = 4 then ¬ sIn B z t else if w = 5 then sRd B z t else if w = 6 then ¬ sRd B z t else if w = 7 then sAh B t else sBe B z)
section SEM
variable {g g1 g2 : Nat → Int32} {A B : Nat → Nat → Prop}
theorem Rp.row (h : Rp g B) {z t : Nat} (hz : z < 24) (ht : t < 32) : bt (rowAt g (z : Int)) t = true ↔ B z t := by
  rw [rowAt_in (by omega), Int.toNat_natCast]
  exact h z hz t ht
theorem low_le (h : Rp g B) (hB : Rg 24 B) {n e : Nat} (hn : n < 24) (he : e ≤ 24) : lowE (g n) (n : Int) ≤ e ↔ ∃ y, B n y ∧ y ≤ e := by
  constructor
  · intro h1
    have h2 : lowE (g n) (n : Int) < 25 := by omega
    have h3 := fa_first_yes (fun t => decide ((n : Int) < (t : Int)) && bt (g n) t) 25 h2
    have h4 : (decide ((n : Int) < ((lowE (g n) (n : Int) : Nat) : Int)) && bt (g n) (lowE (g n) (n : Int))) = true := h3
    rw [Bool.and_eq_true] at h4
    exact ⟨_, (h n hn _ (by omega)).mp h4.2, h1⟩
  · rintro ⟨y, hy, hye⟩
    obtain ⟨h1, h2⟩ := hB n y hy
    by_cases c : lowE (g n) (n : Int) ≤ e
    · exact c
    · have h3 := fa_first_no (fun t => decide ((n : Int) < (t : Int)) && bt (g n) t) 25 y (show y < lowE (g n) (n : Int) by omega)
      have h4 : (decide ((n : Int) < (y : Int)) && bt (g n) y) = false := h3
      rw [(h n hn y (by omega)).mpr hy, decide_eq_true (by omega)] at h4
      cases h4
theorem nr_le (h : Rp g B) (hB : Rg 24 B) {e : Nat} (he : e ≤ 24) : ∀ m, m ≤ 24 → (nrF g m ≤ e ↔ ∃ x y, B x y ∧ 24 - m ≤ x ∧ y ≤ e)
  | 0, _ => by
    constructor
    · intro h1; unfold nrF at h1; omega
    · rintro ⟨x, y, h1, h2, h3⟩
      have := hB x y h1
      omega
  | m + 1, hm => by
    have ih := nr_le h hB he m (by omega)
    have hl := low_le h hB (n := 23 - m) (e := e) (by omega) he
    unfold nrF
    constructor
    · intro h1
      by_cases c : nrF g m ≤ e
      · obtain ⟨x, y, a, b, d⟩ := ih.mp c
        exact ⟨x, y, a, by omega, d⟩
      · obtain ⟨y, a, b⟩ := hl.mp (by omega)
        exact ⟨_, y, a, by omega, b⟩
    · rintro ⟨x, y, a, b, d⟩
      by_cases c : x = 23 - m
      · subst c
        have := hl.mpr ⟨y, a, d⟩
        omega
      · have := ih.mpr ⟨x, y, a, by omega, d⟩
        omega
theorem fe_le (h : Rp g B) (hB : Rg 24 B) {e : Nat} (he : e ≤ 24) : ∀ m, m ≤ 24 → (feN g m ≤ e ↔ ∃ x y, B x y ∧ x < m ∧ y ≤ e)
  | 0, _ => by
    constructor
    · intro h1; unfold feN at h1; omega
    · rintro ⟨x, y, h1, h2, h3⟩; omega
  | m + 1, hm => by
    have ih := fe_le h hB he m (by omega)
    have hl := low_le h hB (n := m) (e := e) (by omega) he
    unfold feN
    constructor
    · intro h1
      by_cases c : feN g m ≤ e
      · obtain ⟨x, y, a, b, d⟩ := ih.mp c
        exact ⟨x, y, a, by omega, d⟩
      · obtain ⟨y, a, b⟩ := hl.mp (by omega)
        exact ⟨_, y, a, by omega, b⟩
    · rintro ⟨x, y, a, b, d⟩
      by_cases c : x = m
      · subst c
        have := hl.mpr ⟨y, a, d⟩
        omega
      · have := ih.mpr ⟨x, y, a, by omega, d⟩
        omega
theorem hi_ge1 (x : Int32) {e : Nat} (he : 1 ≤ e) : ∀ n, n < 32 → (e ≤ hiE x n ↔ ∃ y, bt x y = true ∧ e ≤ y ∧ y ≤ n)
  | 0, _ => by
    constructor
    · intro h1; unfold hiE at h1; omega
    · rintro ⟨y, h1, h2, h3⟩; omega
  | n + 1, hn => by
    have ih := hi_ge1 x he n (by omega)
    unfold hiE
    by_cases c : bt x (n + 1) = true
    · rw [if_pos c]
      constructor
      · intro h1; exact ⟨n + 1, c, h1, Nat.le_refl _⟩
      · rintro ⟨y, h1, h2, h3⟩; omega
    · rw [if_neg c, ih]
      constructor
      · rintro ⟨y, h1, h2, h3⟩; exact ⟨y, h1, h2, by omega⟩
      · rintro ⟨y, h1, h2, h3⟩
        refine ⟨y, h1, h2, ?_⟩
        by_cases d : y = n + 1
        · rw [d] at h1; exact absurd h1 c
        · omega
theorem hi_ge (h : Rp g B) (hB : Rg 24 B) {n e : Nat} (hn : n < 24) (he : 1 ≤ e) : e ≤ hiE (g n) 24 ↔ ∃ y, B n y ∧ e ≤ y := by
  rw [hi_ge1 _ he 24 (by decide)]
  constructor
  · rintro ⟨y, h1, h2, h3⟩; exact ⟨y, (h n hn y (by omega)).mp h1, h2⟩
  · rintro ⟨y, h1, h2⟩
    have := hB n y h1
    exact ⟨y, (h n hn y (by omega)).mpr h1, h2, by omega⟩
theorem fr_ge (h : Rp g B) (hB : Rg 24 B) {e : Nat} (he : 1 ≤ e) : ∀ m, m ≤ 24 → (e ≤ frF g m ↔ ∃ x y, B x y ∧ x < m ∧ e ≤ y)
  | 0, _ => by
    constructor
    · intro h1; unfold frF at h1; omega
    · rintro ⟨x, y, h1, h2, h3⟩; omega
  | m + 1, hm => by
    have ih := fr_ge h hB he m (by omega)
    have hl := hi_ge h hB (n := m) (e := e) (by omega) he
    unfold frF
    constructor
    · intro h1
      by_cases c : e ≤ frF g m
      · obtain ⟨x, y, a, b, d⟩ := ih.mp c
        exact ⟨x, y, a, by omega, d⟩
      · obtain ⟨y, a, b⟩ := hl.mp (by omega)
        exact ⟨_, y, a, by omega, b⟩
    · rintro ⟨x, y, a, b, d⟩
      by_cases c : x = m
      · subst c
        have := hl.mpr ⟨y, a, d⟩
        omega
      · have := ih.mpr ⟨x, y, a, by omega, d⟩
        omega
theorem Rp.ne0 (h : Rp g B) (hB : Rg 24 B) {n : Nat} (hn : n < 24) : ¬ g n = 0 ↔ ∃ y, B n y := by
  rw [b_ne0]
  constructor
  · rintro ⟨y, h1, h2⟩; exact ⟨y, (h n hn y h1).mp h2⟩
  · rintro ⟨y, h1⟩
    have := hB n y h1
    exact ⟨y, by omega, (h n hn y (by omega)).mpr h1⟩
theorem lb_ge (h : Rp g B) (hB : Rg 24 B) {e : Int} (he : 0 ≤ e) : ∀ m, m ≤ 24 → (e ≤ lbI g m ↔ ∃ x y, B x y ∧ x < m ∧ e ≤ (x : Int))
  | 0, _ => by
    constructor
    · intro h1; unfold lbI at h1; omega
    · rintro ⟨x, y, h1, h2, h3⟩; omega
  | m + 1, hm => by
    have ih := lb_ge h hB he m (by omega)
    have hl := h.ne0 hB (n := m) (by omega)
    unfold lbI
    by_cases c : g m = 0
    · rw [if_pos c, ih]
      constructor
      · rintro ⟨x, y, a, b, d⟩; exact ⟨x, y, a, by omega, d⟩
      · rintro ⟨x, y, a, b, d⟩
        refine ⟨x, y, a, ?_, d⟩
        by_cases q : x = m
        · subst q; exact absurd c (hl.mpr ⟨y, a⟩)
        · omega
    · rw [if_neg c]
      constructor
      · intro h1
        obtain ⟨y, a⟩ := hl.mp c
        exact ⟨m, y, a, by omega, h1⟩
      · rintro ⟨x, y, a, b, d⟩; omega
end SEM
