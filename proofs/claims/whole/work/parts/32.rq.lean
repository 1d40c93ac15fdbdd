section RQ
variable {R R0 : Nat → Int32} {i j t x e o w : Nat} {lo : Bool} {A B P : Nat → Nat → Prop}
/-- rows i of the reference's rows tell P -/
def Rq (R : Nat → Int32) (i : Nat) (P : Nat → Nat → Prop) : Prop := ∀ z, z < 25 → ∀ t, t < 32 → (bt (R (25 * i + z)) t = true ↔ P z t)
theorem mo_up3 : ∀ n : Nat, n ≤ 24 → ∀ i, i < 32 → bt (upM (n : Int)) i = decide (i ≤ n) := by decide +kernel
theorem mo_on3 : ∀ n : Nat, n ≤ 25 → ∀ i, i < 32 → bt (onM (n : Int)) i = decide (n ≤ i) := by decide +kernel
theorem mo_two : ∀ n : Nat, n ≤ 24 → ∀ i, i < 32 → bt (zI 2 <<< (zI (n : Int) &&& 31)) i = decide (i = n + 1) := by decide +kernel
theorem mo_nz {y : Int32} : (!decide (y = 0)) = true ↔ ∃ e, e < 32 ∧ bt y e = true := by
  rw [Bool.not_eq_true', decide_eq_false_iff_not]; exact b_ne0
theorem hw_bit (h : Rq R i B) (hx : x < 25) (he : e < 32) (ht : t < 32) (m : Int32) : bt (hwR R i j t lo m x) e = true ↔ B x e ∧ bt m e = true ∧ ¬ (x = j ∧ lo = true ∧ e = t) := by
  unfold hwR
  by_cases c : x = j ∧ lo = true
  · rw [if_pos c, b_and, b_and, b_not he, bt_pw ht, Bool.and_eq_true, Bool.and_eq_true, h x hx e he]
    constructor
    · intro ⟨⟨a, b⟩, d⟩
      refine ⟨a, b, fun q => ?_⟩
      rw [decide_eq_true q.2.2] at d
      exact absurd d (by decide)
    · intro ⟨a, b, d⟩
      exact ⟨⟨a, b⟩, by rw [decide_eq_false (fun q => d ⟨c.1, c.2, q⟩)]; rfl⟩
  · rw [if_neg c, b_and, Bool.and_eq_true, h x hx e he]
    exact ⟨fun ⟨a, b⟩ => ⟨a, b, fun q => c ⟨q.1, q.2.1⟩⟩, fun ⟨a, b, _⟩ => ⟨a, b⟩⟩
theorem hw_i (h : Rq R i B) (hB : Rg 24 B) (ht : t ≤ 24) : hwB R i j t lo = true ↔ ∃ x y, B x y ∧ j ≤ x ∧ y ≤ t ∧ ¬ (x = j ∧ lo = true ∧ y = t) := by
  unfold hwB
  rw [anyN_iff]
  constructor
  · rintro ⟨x, hx, hp⟩
    unfold hwP at hp
    rw [Bool.and_eq_true, decide_eq_true_eq] at hp
    obtain ⟨e, he, hb⟩ := mo_nz.mp hp.2
    rw [hw_bit h (by omega) he (by omega), mo_up3 t ht e he, decide_eq_true_eq] at hb
    exact ⟨x, e, hb.1, hp.1, hb.2.1, hb.2.2⟩
  · rintro ⟨x, y, hb, hj, hy, hn⟩
    have := hB x y hb
    refine ⟨x, by omega, ?_⟩
    unfold hwP
    rw [Bool.and_eq_true, decide_eq_true_eq]
    exact ⟨hj, mo_nz.mpr ⟨y, by omega, (hw_bit h (by omega) (by omega) (by omega) _).mpr ⟨hb, by rw [mo_up3 t ht y (by omega)]; exact decide_eq_true hy, hn⟩⟩⟩
theorem lw_i (h : Rq R i B) (hB : Rg 24 B) (hj : j < 25) (ht : t ≤ 24) : lwB R i j t lo = true ↔ ∃ x y, B x y ∧ x ≤ j ∧ t ≤ y ∧ ¬ (x = j ∧ lo = true ∧ y = t) := by
  unfold lwB
  rw [anyN_iff]
  constructor
  · rintro ⟨x, hx, hp⟩
    unfold lwP at hp
    obtain ⟨e, he, hb⟩ := mo_nz.mp hp
    rw [hw_bit h (by omega) he (by omega), mo_on3 t (by omega) e he, decide_eq_true_eq] at hb
    exact ⟨x, e, hb.1, by omega, hb.2.1, hb.2.2⟩
  · rintro ⟨x, y, hb, hx, hy, hn⟩
    have := hB x y hb
    refine ⟨x, by omega, ?_⟩
    unfold lwP
    exact mo_nz.mpr ⟨y, by omega, (hw_bit h (by omega) (by omega) (by omega) _).mpr ⟨hb, by rw [mo_on3 t (by omega) y (by omega)]; exact decide_eq_true hy, hn⟩⟩
theorem bg_i (h : Rq R i B) (hB : Rg 24 B) : bgB R i t = true ↔ sAh B t := by
  unfold bgB
  rw [anyN_iff]
  constructor
  · rintro ⟨x, hx, hp⟩
    unfold bgP at hp
    rw [Bool.and_eq_true, decide_eq_true_eq] at hp
    obtain ⟨e, he, hb⟩ := mo_nz.mp hp.2
    exact ⟨x, e, (h x hx e he).mp hb, hp.1⟩
  · rintro ⟨x, y, hb, hx⟩
    have := hB x y hb
    refine ⟨x, by omega, ?_⟩
    unfold bgP
    rw [Bool.and_eq_true, decide_eq_true_eq]
    exact ⟨hx, mo_nz.mpr ⟨y, by omega, (h x (by omega) y (by omega)).mpr hb⟩⟩
theorem eu_i (h : Rq R i B) (hB : Rg 24 B) (ht : t ≤ 24) : euB R i t = true ↔ sBe B t := by
  unfold euB
  rw [anyN_iff]
  constructor
  · rintro ⟨x, hx, hp⟩
    unfold euP at hp
    obtain ⟨e, he, hb⟩ := mo_nz.mp hp
    rw [b_and, Bool.and_eq_true, h x hx e he, mo_up3 t ht e he, decide_eq_true_eq] at hb
    exact ⟨x, e, hb.1, hb.2⟩
  · rintro ⟨x, y, hb, hy⟩
    have := hB x y hb
    refine ⟨x, by omega, ?_⟩
    unfold euP
    refine mo_nz.mpr ⟨y, by omega, ?_⟩
    rw [b_and, Bool.and_eq_true, h x (by omega) y (by omega), mo_up3 t ht y (by omega), decide_eq_true_eq]
    exact ⟨hb, hy⟩
theorem hw_0 (h : Rq R i B) (hB : Rg 24 B) (ht : t ≤ 24) : hwB R i j t false = true ↔ sIn B j t := by
  rw [hw_i h hB ht]
  exact ⟨fun ⟨x, y, a, b, c, _⟩ => ⟨x, y, a, b, c⟩, fun ⟨x, y, a, b, c⟩ => ⟨x, y, a, b, c, fun q => absurd q.2.1 (by decide)⟩⟩
theorem lw_0 (h : Rq R i B) (hB : Rg 24 B) (hj : j < 25) (ht : t ≤ 24) : lwB R i j t false = true ↔ sRd B j t := by
  rw [lw_i h hB hj ht]
  exact ⟨fun ⟨x, y, a, b, c, _⟩ => ⟨x, y, a, b, c⟩, fun ⟨x, y, a, b, c⟩ => ⟨x, y, a, b, c, fun q => absurd q.2.1 (by decide)⟩⟩
theorem hw_1 (h : Rq R i A) (hA : Rg 24 A) (ht : t ≤ 24) (ha : A j t) : (!hwB R i j t true) = true ↔ sIi A j t := by
  rw [not_t (hw_i h hA ht)]
  exact ⟨fun q => ⟨ha, fun ⟨x, y, a, b, c, d⟩ => q ⟨x, y, a, b, c, fun r => d ⟨r.1, r.2.2⟩⟩⟩, fun q ⟨x, y, a, b, c, d⟩ => q.2 ⟨x, y, a, b, c, fun r => d ⟨r.1, rfl, r.2⟩⟩⟩
theorem lw_1 (h : Rq R i A) (hA : Rg 24 A) (hj : j < 25) (ht : t ≤ 24) (ha : A j t) : (!lwB R i j t true) = true ↔ sOo A j t := by
  rw [not_t (lw_i h hA hj ht)]
  exact ⟨fun q => ⟨ha, fun ⟨x, y, a, b, c, d⟩ => q ⟨x, y, a, b, c, fun r => d ⟨r.1, r.2.2⟩⟩⟩, fun q ⟨x, y, a, b, c, d⟩ => q.2 ⟨x, y, a, b, c, fun r => d ⟨r.1, rfl, r.2⟩⟩⟩
theorem b_tf {b : Bool} (h : b = true) (h2 : b = false) : False := by rw [h] at h2; exact absurd h2 (by decide)
theorem hw_1y (h : Rq R i A) (hA : Rg 24 A) (ht : t ≤ 24) (ha : A j t) (c : hwB R i j t true = false) : sIi A j t := (hw_1 h hA ht ha).mp (by rw [c]; rfl)
theorem hw_1n (h : Rq R i A) (hA : Rg 24 A) (ht : t ≤ 24) (ha : A j t) (c : hwB R i j t true = true) : ¬ sIi A j t := fun q => by
  have q2 := (hw_1 h hA ht ha).mpr q
  rw [c] at q2
  exact absurd q2 (by decide)
def sNd (w : Nat) (A B : Nat → Nat → Prop) : Nat → Nat → Prop := if w = 13 then sIi A else if w = 14 then sOo A else sPa w A B
theorem mo_s (h : Rq R o B) (hB : Rg 24 B) (ha : A j t) (hj : j < t) (ht : t ≤ 24) (hw : 1 ≤ w ∧ w ≤ 8 ∨ w = 13 ∨ w = 14) (hBA : 13 ≤ w → B = A) : moB R w o j t = true ↔ sNd w A B j t := by
  have two : ∀ {X Y : Prop}, (X ↔ Y) → (X ↔ A j t ∧ Y) := fun q => q.trans ⟨fun r => ⟨ha, r⟩, fun r => r.2⟩
  rcases (show w = 1 ∨ w = 2 ∨ w = 3 ∨ w = 4 ∨ w = 5 ∨ w = 6 ∨ w = 7 ∨ w = 8 ∨ w = 13 ∨ w = 14 by omega) with rfl | rfl | rfl | rfl | rfl | rfl | rfl | rfl | rfl | rfl
  · exact two (h j (by omega) t (by omega))
  · exact two (not_t (h j (by omega) t (by omega)))
  · exact two (hw_0 h hB ht)
  · exact two (not_t (hw_0 h hB ht))
  · exact two (lw_0 h hB (by omega) ht)
  · exact two (not_t (lw_0 h hB (by omega) ht))
  · exact two (bg_i h hB)
  · exact two (eu_i h hB (by omega))
  · obtain rfl := hBA (by decide)
    exact hw_1 h hB ht ha
  · obtain rfl := hBA (by decide)
    exact lw_1 h hB (by omega) ht ha
/-- rows of node i below x laid, the others as before -/
def rqI (R0 R : Nat → Int32) (i x : Nat) (P : Nat → Nat → Prop) : Prop := (∀ q, q / 25 ≠ i → R q = R0 q) ∧ ∀ z, z < x → ∀ t, t < 32 → (bt (R (25 * i + z)) t = true ↔ P z t)
theorem rqI_0 (R0 : Nat → Int32) (i : Nat) (P : Nat → Nat → Prop) : rqI R0 R0 i 0 P := ⟨fun _ _ => rfl, fun z hz => absurd hz (Nat.not_lt_zero z)⟩
theorem rqI_s {v : Int32} (h : rqI R0 R i x P) (hx : x < 25) (hv : ∀ t, t < 32 → (bt v t = true ↔ P x t)) : rqI R0 (upd R (25 * i + x) v) i (x + 1) P := by
  refine ⟨fun q hq => ?_, fun z hz t ht => ?_⟩
  · rw [pk_un (by omega)]
    exact h.1 q hq
  · by_cases c : z = x
    · subst c
      rw [pk_us]
      exact hv t ht
    · rw [pk_un (by omega)]
      exact h.2 z (by omega) t ht
theorem rqI.keep (h : rqI R0 R i x P) (ho : o ≠ i) (hA : Rq R0 o A) : Rq R o A := fun z hz t ht => by
  rw [h.1 _ (by omega)]
  exact hA z hz t ht
theorem rqI.q (h : rqI R0 R i 25 P) : Rq R i P := h.2
/-- joined: the ends found so far -/
def jM (A B : Nat → Nat → Prop) (g z y t : Nat) : Prop := ∃ a b, A z a ∧ B b t ∧ a ≤ b ∧ b ≤ a + g ∧ a < y
def jI (A B : Nat → Nat → Prop) (g z y b t : Nat) : Prop := jM A B g z y t ∨ (A z y ∧ ∃ c, B c t ∧ y ≤ c ∧ c ≤ y + g ∧ c < b)
theorem jM_0 (hA : Rg 24 A) {g z : Nat} : ¬ jM A B g z (z + 1) t := fun ⟨a, b, h1, _, _, _, h2⟩ => by
  have := hA z a h1
  omega
theorem jM_e (hA : Rg 24 A) {g z : Nat} : jM A B g z 25 t ↔ sJn A B g z t :=
  ⟨fun ⟨a, b, h1, h2, h3, h4, _⟩ => ⟨a, b, h1, h2, h3, h4⟩, fun ⟨a, b, h1, h2, h3, h4⟩ => ⟨a, b, h1, h2, h3, h4, by have := hA z a h1; omega⟩⟩
theorem jI_0 {g z y : Nat} : jI A B g z y y t ↔ jM A B g z y t :=
  ⟨fun h => h.elim id (fun ⟨_, c, _, h1, _, h2⟩ => absurd h2 (by omega)), Or.inl⟩
theorem jI_s {g z y b : Nat} (ha : A z y) (h1 : y ≤ b) (h2 : b ≤ y + g) : jI A B g z y (b + 1) t ↔ jI A B g z y b t ∨ B b t := by
  constructor
  · rintro (h | ⟨_, c, hc, a1, a2, a3⟩)
    · exact Or.inl (Or.inl h)
    · by_cases q : c = b
      · subst q; exact Or.inr hc
      · exact Or.inl (Or.inr ⟨ha, c, hc, a1, a2, by omega⟩)
  · rintro ((h | ⟨_, c, hc, a1, a2, a3⟩) | h)
    · exact Or.inl h
    · exact Or.inr ⟨ha, c, hc, a1, a2, by omega⟩
    · exact Or.inr ⟨ha, b, h, h1, h2, by omega⟩
theorem jI_e (hB : Rg 24 B) {g z y b : Nat} (h : 25 ≤ b ∨ y + g < b ∨ ¬ A z y) : jM A B g z (y + 1) t ↔ jI A B g z y b t := by
  constructor
  · rintro ⟨a, c, h1, h2, h3, h4, h5⟩
    by_cases q : a = y
    · subst q
      refine Or.inr ⟨h1, c, h2, h3, h4, ?_⟩
      have := hB c t h2
      rcases h with h | h | h
      · omega
      · omega
      · exact absurd h1 h
    · exact Or.inl ⟨a, c, h1, h2, h3, h4, by omega⟩
  · rintro (⟨a, c, h1, h2, h3, h4, h5⟩ | ⟨h1, c, h2, h3, h4, h5⟩)
    · exact ⟨a, c, h1, h2, h3, h4, by omega⟩
    · exact ⟨y, c, h1, h2, h3, h4, by omega⟩
theorem nd_g (hA : Rg 24 A) (hB : Rg 24 B) : Rg 24 (sNd w A B) := fun z t h => by
  unfold sNd at h
  by_cases c : w = 13
  · rw [if_pos c] at h; exact hA z t h.1
  · by_cases c2 : w = 14
    · rw [if_neg c, if_pos c2] at h; exact hA z t h.1
    · rw [if_neg c, if_neg c2] at h; exact sPa_in hA hB z t h
theorem nd_a (hw : w ≠ 0) (h : sNd w A B j t) : A j t := by
  unfold sNd at h
  by_cases c : w = 13
  · rw [if_pos c] at h; exact h.1
  · by_cases c2 : w = 14
    · rw [if_neg c, if_pos c2] at h; exact h.1
    · rw [if_neg c, if_neg c2] at h; unfold sPa at h; rw [if_neg hw] at h; exact h.1
theorem nd_0 : sNd 0 A B j t ↔ A j t ∨ B j t := Iff.rfl
def ndE (v : Int32) (w : Nat) (A B : Nat → Nat → Prop) (x y : Nat) : Prop := ∀ t, t < 32 → (bt v t = true ↔ (w = 0 ∧ B x t) ∨ (t < y ∧ sNd w A B x t))
theorem nd_00 {v : Int32} (hA : Rg 24 A) (hB : Rg 24 B) (hw : w = 0) (h : ∀ t, t < 32 → (bt v t = true ↔ B x t)) : ndE v w A B x (x + 1) := fun t ht => by
  rw [h t ht]
  exact ⟨fun q => Or.inl ⟨hw, q⟩, fun q => q.elim (fun q => q.2) (fun q => by have := nd_g hA hB x t q.2; omega)⟩
theorem nd_01 (hA : Rg 24 A) (hB : Rg 24 B) (hw : w ≠ 0) : ndE (zI 0) w A B x (x + 1) := fun t ht => by
  rw [b_z0]
  exact ⟨fun h => absurd h (by decide), fun q => q.elim (fun q => absurd q.1 hw) (fun q => by have := nd_g hA hB x t q.2; omega)⟩
theorem nd_y {v : Int32} {y : Nat} (h : ndE v w A B x y) (hy : y < 25) (hs : sNd w A B x y) : ndE (v ||| pw y) w A B x (y + 1) := fun t ht => by
  rw [b_or, Bool.or_eq_true, h t ht, bt_pw (by omega), decide_eq_true_eq]
  constructor
  · rintro ((q | q) | q)
    · exact Or.inl q
    · exact Or.inr ⟨by omega, q.2⟩
    · exact Or.inr ⟨by omega, by rw [q]; exact hs⟩
  · rintro (q | q)
    · exact Or.inl (Or.inl q)
    · by_cases c : t = y
      · exact Or.inr c
      · exact Or.inl (Or.inr ⟨by omega, q.2⟩)
theorem nd_n {v : Int32} {y : Nat} (h : ndE v w A B x y) (hs : ¬ sNd w A B x y ∨ (w = 0 ∧ ¬ A x y)) : ndE (v ||| zI 0) w A B x (y + 1) := fun t ht => by
  rw [b_or, b_z0, Bool.or_false, h t ht]
  constructor
  · rintro (q | q)
    · exact Or.inl q
    · exact Or.inr ⟨by omega, q.2⟩
  · rintro (q | q)
    · exact Or.inl q
    · by_cases c : t = y
      · subst c
        rcases hs with hs | ⟨rfl, hs⟩
        · exact absurd q.2 hs
        · exact Or.inl ⟨rfl, (nd_0.mp q.2).elim (fun r => absurd r hs) id⟩
      · exact Or.inr ⟨by omega, q.2⟩
theorem nd_na (h : ¬ A x j) : ¬ sNd w A B x j ∨ (w = 0 ∧ ¬ A x j) := by
  by_cases c : w = 0
  · exact Or.inr ⟨c, h⟩
  · exact Or.inl (fun q => h (nd_a c q))
theorem nd_e {v : Int32} (h : ndE v w A B x 25) (hA : Rg 24 A) (hB : Rg 24 B) : ∀ t, t < 32 → (bt v t = true ↔ sNd w A B x t) := fun t ht => by
  rw [h t ht]
  constructor
  · rintro (⟨rfl, q⟩ | q)
    · exact nd_0.mpr (Or.inr q)
    · exact q.2
  · exact fun q => Or.inr ⟨by have := nd_g hA hB x t q; omega, q⟩
theorem rqI.tr {R1 R2 : Nat → Int32} {P Q9 : Nat → Nat → Prop} (h1 : rqI R0 R1 i 25 P) (h2 : rqI R1 R2 i 25 Q9) : rqI R0 R2 i 25 Q9 := ⟨fun q hq => (h2.1 q hq).trans (h1.1 q hq), h2.2⟩
end RQ
section SQ
variable {S : SA} {i : Nat}
theorem sem_12 (hO : aOK S) (hi : i < sC S) (h : sW S i = 12) : sem S i = fun z t => z < 24 ∧ t < 32 ∧ bt (sR S (sO S i) z) t = true := by
  rw [sem_eq hO hi]; unfold semF; rw [if_pos h]
theorem sem_11 (hO : aOK S) (hi : i < sC S) (h : sW S i = 11) : sem S i = fun (z t : Nat) => t = z + 1 ∧ (z : Int) < sN S ∧ sT S z = zI (sO S i : Int) := by
  rw [sem_eq hO hi]; unfold semF; rw [if_neg (by omega), if_pos h]
theorem sem_10 (hO : aOK S) (hi : i < sC S) (h : sW S i = 10) : sem S i = sJn (sem S (sO S i)) (sem S (sP S i)) (sG S i).toNat := by
  rw [sem_eq hO hi]; unfold semF; rw [if_neg (by omega), if_neg (by omega), if_pos h]
theorem sem_9 (hO : aOK S) (hi : i < sC S) (h : sW S i = 9) : sem S i = sIi (sJn (sem S (sO S i)) (sem S (sP S i)) 24) := by
  rw [sem_eq hO hi]; unfold semF; rw [if_neg (by omega), if_neg (by omega), if_neg (by omega), if_neg (by omega), if_neg (by omega), if_pos h]
theorem sem_nd (hO : aOK S) (hi : i < sC S) (h : ¬ (9 ≤ sW S i ∧ sW S i ≤ 12)) : sem S i = sNd (sW S i) (sem S (sO S i)) (sem S (sP S i)) := by
  rw [sem_eq hO hi]; unfold semF sNd; rw [if_neg (by omega), if_neg (by omega), if_neg (by omega)]
  by_cases c : sW S i = 13
  · rw [if_pos c, if_pos c]
  · by_cases c2 : sW S i = 14
    · rw [if_neg c, if_pos c2, if_neg c, if_pos c2]
    · rw [if_neg c, if_neg c2, if_neg c, if_neg c2, if_neg (by omega)]
/-- the reference's arrays hold the state -/
def mSync (S : SA) (A1 A2 A3 A4 A5 A6 A7 : Nat → Int32) : Prop := (∀ j, j < 24 → A1 j = sT S j) ∧ (∀ q, q < 4 → (∀ j, j < 24 → A2 (25 * q + j) = sR S q j) ∧ A2 (25 * q + 24) = 0) ∧ ∀ i, i < sC S → A3 i = zI (sW S i : Int) ∧ A4 i = zI (sO S i : Int) ∧ (comp S i → A5 i = zI (sP S i : Int)) ∧ A6 i = zI (sG S i) ∧ A7 i = zI (sD S i)
end SQ
