/-! sets out of sets: what the nodes gather and ask -/
theorem or_z0 (x : Int32) : zI 0 ||| x = x := by
  apply b_ext
  intro i _
  rw [b_or, b_z0, Bool.false_or]
def dnF (F g : Nat → Int32) (i : Int) : Nat → Int32 := fun j => if i < (j : Int) ∧ j < 24 then F j else g j
theorem dn_0 (F g : Nat → Int32) : dnF F g 23 = g := by
  funext j
  unfold dnF
  rw [if_neg (by omega)]
theorem dn_s {F g : Nat → Int32} {i : Int} {x : Int32} (h : 0 ≤ i ∧ i ≤ 23) (hx : x = F i.toNat) : setR (dnF F g i) i x = dnF F g (i - 1) := by
  rw [setR_in (by omega)]
  funext j
  by_cases q : j = i.toNat
  · subst q
    rw [pk_us, hx]
    unfold dnF
    rw [if_pos (by omega)]
  · rw [pk_un q]
    unfold dnF
    by_cases a : i < (j : Int) ∧ j < 24
    · rw [if_pos a, if_pos (by omega)]
    · rw [if_neg a, if_neg (by omega)]
theorem dn_e (F g : Nat → Int32) : dnF F g (-1) = fa_fill F g 24 := by
  funext j
  unfold dnF
  by_cases a : j < 24
  · rw [if_pos (by omega), fa_fill_in a]
  · rw [if_neg (by omega), fa_fill_out (by omega)]
theorem fill_set {F g : Nat → Int32} {i : Nat} {z : Int} {x : Int32} (hi : i < 24) (hz : z = i) (hx : x = F i) : setR (fa_fill F g i) z x = fa_fill F g (i + 1) := by
  subst hz
  rw [setR_in (by omega), Int.toNat_natCast, hx]
  exact fa_fill_succ F g i
def ghF (b : Bool) (g1 g2 : Nat → Int32) (j : Nat) : Int32 := rowAt g1 (j : Int) &&& (if b = true then onM (nrF g2 (24 - j) : Int) else onM (nrF g2 (24 - j) : Int) ^^^ zI (-1))
def glF (b : Bool) (g1 g2 : Nat → Int32) (j : Nat) : Int32 := rowAt g1 (j : Int) &&& (if b = true then upM (frF g2 (j + 1) : Int) else upM (frF g2 (j + 1) : Int) ^^^ zI (-1))
def lbI (g : Nat → Int32) : Nat → Int
  | 0 => -1
  | n + 1 => if g n = 0 then lbI g n else (n : Int)
def gaF (g1 g2 : Nat → Int32) (j : Nat) : Int32 := rowAt g1 (j : Int) &&& upM (lbI g2 24)
def feN (g : Nat → Int32) : Nat → Nat
  | 0 => 25
  | n + 1 => min (feN g n) (lowE (g n) (n : Int))
def gbF (g1 g2 : Nat → Int32) (j : Nat) : Int32 := if feN g2 24 ≤ j then rowAt g1 (j : Int) else zI 0
def grF (v : Int) (g1 g2 : Nat → Int32) (j : Nat) : Int32 := if v = 0 then rowAt g1 (j : Int) ||| rowAt g2 (j : Int) else if v = 1 then rowAt g1 (j : Int) &&& rowAt g2 (j : Int) else rowAt g1 (j : Int) &&& (rowAt g2 (j : Int) ^^^ zI (-1))
def paF (v : Int) (g1 g2 : Nat → Int32) : Nat → Int32 := if v = 3 then ghF true g1 g2 else if v = 4 then ghF false g1 g2 else if v = 5 then glF true g1 g2 else if v = 6 then glF false g1 g2 else if v = 7 then gaF g1 g2 else if v = 8 then gbF g1 g2 else grF v g1 g2
theorem lbI_in (g : Nat → Int32) : ∀ n : Nat, -1 ≤ lbI g n ∧ lbI g n < (n : Int)
  | 0 => by unfold lbI; omega
  | n + 1 => by
    have := lbI_in g n
    unfold lbI
    split <;> omega
theorem lbI_f {g : Nat → Int32} {z : Int} (h : 0 ≤ z ∧ z ≤ 23) (c : rowAt g z = 0) : lbI g (z + 1).toNat = lbI g (z - 1 + 1).toNat := by
  obtain ⟨n, rfl⟩ := Int.eq_ofNat_of_zero_le h.1
  rw [rowAt_in (by omega), Int.toNat_natCast] at c
  rw [show ((n : Int) + 1).toNat = n + 1 by omega, show ((n : Int) - 1 + 1).toNat = n by omega]
  conv => lhs; unfold lbI
  rw [if_pos c]
theorem lbI_t {g : Nat → Int32} {z : Int} (h : 0 ≤ z ∧ z ≤ 23) (c : ¬ rowAt g z = 0) : lbI g (z + 1).toNat = z := by
  obtain ⟨n, rfl⟩ := Int.eq_ofNat_of_zero_le h.1
  rw [rowAt_in (by omega), Int.toNat_natCast] at c
  rw [show ((n : Int) + 1).toNat = n + 1 by omega]
  unfold lbI
  rw [if_neg c]
theorem feN_le (g : Nat → Int32) : ∀ n, feN g n ≤ 25
  | 0 => Nat.le_refl _
  | n + 1 => by have := feN_le g n; unfold feN; omega
theorem feN_s {g : Nat → Int32} {z1 z2 : Int} {i : Nat} (hi : i < 24) (h2 : z2 = i) (h1 : z1 = ((feN g i : Nat) : Int)) : min z1 ((lowE (rowAt g z2) z2 : Nat) : Int) = ((feN g (i + 1) : Nat) : Int) := by
  subst h2
  rw [h1, rowAt_in (by omega), Int.toNat_natCast]
  conv => rhs; unfold feN
  omega
theorem nrF_s {g : Nat → Int32} {z1 z2 : Int} (h : 0 ≤ z2 ∧ z2 ≤ 23) (hz : z1 = ((nrF g (23 - z2).toNat : Nat) : Int)) : min z1 ((lowE (rowAt g z2) z2 : Nat) : Int) = ((nrF g (23 - (z2 - 1)).toNat : Nat) : Int) := by
  obtain ⟨n, hn⟩ : ∃ n : Nat, z2 = 23 - n ∧ n ≤ 23 := ⟨(23 - z2).toNat, by omega⟩
  obtain ⟨rfl, hn⟩ := hn
  rw [show (23 - (23 - (n : Int) - 1)).toNat = n + 1 by omega, rowAt_in (by omega), hz, show (23 - (23 - (n : Int))).toNat = n by omega]
  conv => rhs; unfold nrF
  rw [show (23 - (n : Int)).toNat = 23 - n by omega, show ((23 - n : Nat) : Int) = 23 - (n : Int) by omega]
  omega
theorem gh_x {b : Bool} {g1 g2 : Nat → Int32} {z2 m : Int} (h : 0 ≤ z2 ∧ z2 ≤ 23) (hm : m = ((nrF g2 (23 - (z2 - 1)).toNat : Nat) : Int)) {y : Int32} (hy : (if b = true then onM m else onM m ^^^ zI (-1)) = y) : rowAt g1 z2 &&& y = ghF b g1 g2 z2.toNat := by
  unfold ghF
  rw [show ((z2.toNat : Nat) : Int) = z2 by omega, show 24 - z2.toNat = (23 - (z2 - 1)).toNat by omega, ← hm, hy]
theorem frF_s {g : Nat → Int32} {z1 z2 : Int} {i : Nat} (hi : i < 24) (h2 : z2 = i) (h1 : z1 = ((frF g i : Nat) : Int)) : max z1 ((hiE (rowAt g z2) 24 : Nat) : Int) = ((frF g (i + 1) : Nat) : Int) := by
  subst h2
  rw [h1, rowAt_in (by omega), Int.toNat_natCast]
  conv => rhs; unfold frF
  omega
theorem gl_x {b : Bool} {g1 g2 : Nat → Int32} {z2 m : Int} {i : Nat} (h2 : z2 = i) (hm : m = ((frF g2 (i + 1) : Nat) : Int)) {y : Int32} (hy : (if b = true then upM m else upM m ^^^ zI (-1)) = y) : rowAt g1 z2 &&& y = glF b g1 g2 i := by
  subst h2
  unfold glF
  rw [← hm, hy]
/-- what a pair answers of one region -/
def paB (v : Int) (g1 g2 : Nat → Int32) (z w : Int) : Bool := if v = 0 then hasB g1 z w || hasB g2 z w else hasB g1 z w && (if v = 1 then hasB g2 z w else if v = 2 then !hasB g2 z w else if v = 3 then decide (0 < cwN g2 z (w - 1) (z + 1) w) else if v = 4 then decide (cwN g2 z (w - 1) (z + 1) w = 0) else if v = 5 then decide (0 < cwN g2 0 z w 24) else if v = 6 then decide (cwN g2 0 z w 24 = 0) else if v = 7 then decide (0 < cwN g2 w 23 (w + 1) 24) else decide (0 < cwN g2 0 (z - 1) 1 z))
section PA
variable {v : Int} {g1 g2 : Nat → Int32} {z w : Int}
theorem pa0_1 (hq : v = 0) (h : hasB g1 z w = true) : paB v g1 g2 z w = true := by simp [paB, hq, h]
theorem pa0_2 (hq : v = 0) (h : hasB g2 z w = true) : paB v g1 g2 z w = true := by simp [paB, hq, h]
theorem pa0_3 (hq : v = 0) (h1 : hasB g1 z w = false) (h : hasB g2 z w = false) : paB v g1 g2 z w = false := by simp [paB, hq, h1, h]
theorem pa_n (hq : ¬ v = 0) (h : hasB g1 z w = false) : paB v g1 g2 z w = false := by simp [paB, hq, h]
theorem pa1 (hq : v = 1) (h : hasB g1 z w = true) : paB v g1 g2 z w = hasB g2 z w := by simp [paB, hq, h]
theorem pa2_1 (hq : v = 2) (h : hasB g1 z w = true) (h2 : hasB g2 z w = false) : paB v g1 g2 z w = true := by simp [paB, hq, h, h2]
theorem pa2_0 (hq : v = 2) (h2 : hasB g2 z w = true) : paB v g1 g2 z w = false := by simp [paB, hq, h2]
theorem pa3_1 (hq : v = 3) (h : hasB g1 z w = true) (h2 : 0 < ((cwN g2 z (w - 1) (z + 1) w : Nat) : Int)) : paB v g1 g2 z w = true := by
  have h3 : 0 < cwN g2 z (w - 1) (z + 1) w := by omega
  simp [paB, hq, h, h3]
theorem pa3_0 (hq : v = 3) (h2 : ((cwN g2 z (w - 1) (z + 1) w : Nat) : Int) ≤ 0) : paB v g1 g2 z w = false := by
  have h3 : ¬ 0 < cwN g2 z (w - 1) (z + 1) w := by omega
  simp [paB, hq, decide_eq_false h3]
theorem pa4_1 (hq : v = 4) (h : hasB g1 z w = true) (h2 : ((cwN g2 z (w - 1) (z + 1) w : Nat) : Int) = 0) : paB v g1 g2 z w = true := by
  have h3 : cwN g2 z (w - 1) (z + 1) w = 0 := by omega
  simp [paB, hq, h, h3]
theorem pa4_0 (hq : v = 4) (h2 : ¬ ((cwN g2 z (w - 1) (z + 1) w : Nat) : Int) = 0) : paB v g1 g2 z w = false := by
  have h3 : ¬ cwN g2 z (w - 1) (z + 1) w = 0 := by omega
  simp [paB, hq, h3]
theorem pa5_1 (hq : v = 5) (h : hasB g1 z w = true) (h2 : 0 < ((cwN g2 0 z w 24 : Nat) : Int)) : paB v g1 g2 z w = true := by
  have h3 : 0 < cwN g2 0 z w 24 := by omega
  simp [paB, hq, h, h3]
theorem pa5_0 (hq : v = 5) (h2 : ((cwN g2 0 z w 24 : Nat) : Int) ≤ 0) : paB v g1 g2 z w = false := by
  have h3 : ¬ 0 < cwN g2 0 z w 24 := by omega
  simp [paB, hq, decide_eq_false h3]
theorem pa6_1 (hq : v = 6) (h : hasB g1 z w = true) (h2 : ((cwN g2 0 z w 24 : Nat) : Int) = 0) : paB v g1 g2 z w = true := by
  have h3 : cwN g2 0 z w 24 = 0 := by omega
  simp [paB, hq, h, h3]
theorem pa6_0 (hq : v = 6) (h2 : ¬ ((cwN g2 0 z w 24 : Nat) : Int) = 0) : paB v g1 g2 z w = false := by
  have h3 : ¬ cwN g2 0 z w 24 = 0 := by omega
  simp [paB, hq, h3]
theorem pa7_1 (hq : v = 7) (h : hasB g1 z w = true) (h2 : 0 < ((cwN g2 w 23 (w + 1) 24 : Nat) : Int)) : paB v g1 g2 z w = true := by
  have h3 : 0 < cwN g2 w 23 (w + 1) 24 := by omega
  simp [paB, hq, h, h3]
theorem pa7_0 (hq : v = 7) (h2 : ((cwN g2 w 23 (w + 1) 24 : Nat) : Int) ≤ 0) : paB v g1 g2 z w = false := by
  have h3 : ¬ 0 < cwN g2 w 23 (w + 1) 24 := by omega
  simp [paB, hq, decide_eq_false h3]
theorem pa8_1 (hq : v < 1 ∨ 7 < v) (h0 : ¬ v = 0) (hv : 0 ≤ v) (h : hasB g1 z w = true) (h2 : 0 < ((cwN g2 0 (z - 1) 1 z : Nat) : Int)) : paB v g1 g2 z w = true := by
  have h3 : 0 < cwN g2 0 (z - 1) 1 z := by omega
  have e1 : ¬ v = 1 := by omega
  have e2 : ¬ v = 2 := by omega
  have e3 : ¬ v = 3 := by omega
  have e4 : ¬ v = 4 := by omega
  have e5 : ¬ v = 5 := by omega
  have e6 : ¬ v = 6 := by omega
  have e7 : ¬ v = 7 := by omega
  simp [paB, h0, e1, e2, e3, e4, e5, e6, e7, h, h3]
theorem pa8_0 (hq : v < 1 ∨ 7 < v) (h0 : ¬ v = 0) (hv : 0 ≤ v) (h2 : ((cwN g2 0 (z - 1) 1 z : Nat) : Int) ≤ 0) : paB v g1 g2 z w = false := by
  have h3 : ¬ 0 < cwN g2 0 (z - 1) 1 z := by omega
  have e1 : ¬ v = 1 := by omega
  have e2 : ¬ v = 2 := by omega
  have e3 : ¬ v = 3 := by omega
  have e4 : ¬ v = 4 := by omega
  have e5 : ¬ v = 5 := by omega
  have e6 : ¬ v = 6 := by omega
  have e7 : ¬ v = 7 := by omega
  simp [paB, h0, e1, e2, e3, e4, e5, e6, e7, decide_eq_false h3]
end PA
/-- an only node of one region; a letter's -/
def onB (b : Bool) (g : Nat → Int32) (z w : Int) : Bool := hasB g z w && decide ((if b = true then cwN g 0 z w 24 else cwN g z (w - 1) (z + 1) w) = 1)
theorem on_1 {b : Bool} {g : Nat → Int32} {z w : Int} {n : Nat} (h : hasB g z w = true) (hn : (if b = true then cwN g 0 z w 24 else cwN g z (w - 1) (z + 1) w) = n) (h2 : ((n : Nat) : Int) = 1) : onB b g z w = true := by
  unfold onB
  rw [h, hn, decide_eq_true (by omega)]; rfl
theorem on_0 {b : Bool} {g : Nat → Int32} {z w : Int} {n : Nat} (hn : (if b = true then cwN g 0 z w 24 else cwN g z (w - 1) (z + 1) w) = n) (h2 : ¬ ((n : Nat) : Int) = 1) : onB b g z w = false := by
  unfold onB
  rw [hn, decide_eq_false (by omega), Bool.and_false]
theorem on_n {b : Bool} {g : Nat → Int32} {z w : Int} (h : hasB g z w = false) : onB b g z w = false := by
  unfold onB
  rw [h]; rfl
def plB (n z : Int) : Bool := decide (0 ≤ z ∧ z < n)
theorem plB_t {n z : Int} (h : 0 ≤ z ∧ z < n) : plB n z = true := decide_eq_true h
theorem plB_f {n z : Int} (h : ¬ (0 ≤ z ∧ z < n)) : plB n z = false := decide_eq_false h
theorem plB_r {n z : Int} (h : plB n z = true) : 0 ≤ z ∧ z < n := of_decide_eq_true h
theorem plB_s {n z : Int} (h : plB n z = false) : ¬ (0 ≤ z ∧ z < n) := of_decide_eq_false h
def atB (T : Nat → Int32) (n : Int) (x : Int32) (z : Int) : Bool := plB n z && decide (T z.toNat = x)
theorem atB_t {T : Nat → Int32} {n z : Int} {x : Int32} (h : 0 ≤ z ∧ z < n) (hx : T z.toNat = x) : atB T n x z = true := by rw [atB, plB_t h, decide_eq_true hx]; rfl
theorem atB_f1 {T : Nat → Int32} {n z : Int} {x : Int32} (h : plB n z = false) : atB T n x z = false := by rw [atB, h]; rfl
theorem atB_f2 {T : Nat → Int32} {n z : Int} {x : Int32} (hx : ¬ T z.toNat = x) : atB T n x z = false := by rw [atB, decide_eq_false hx, Bool.and_false]
theorem atB_r {T : Nat → Int32} {n z : Int} {x : Int32} (h : atB T n x z = true) : (0 ≤ z ∧ z < n) ∧ T z.toNat = x := by
  rw [atB, Bool.and_eq_true] at h
  exact ⟨plB_r h.1, of_decide_eq_true h.2⟩
def rgB (n z w : Int) : Bool := decide (0 ≤ z ∧ z < w ∧ w ≤ n)
theorem rgB_t {n z w : Int} (h : 0 ≤ z ∧ z < w ∧ w ≤ n) : rgB n z w = true := decide_eq_true h
theorem rgB_f {n z w : Int} (h : ¬ (0 ≤ z ∧ z < w ∧ w ≤ n)) : rgB n z w = false := decide_eq_false h
def ltB (T : Nat → Int32) (n : Int) (x : Int32) (z w : Int) : Bool := decide (w = z + 1) && atB T n x z
def ltF (T : Nat → Int32) (x : Int32) (g : Nat → Int32) (i : Nat) : Nat → Int32 := fun j => if j < 24 then (if j < i ∧ T j = x then pw (j + 1) else zI 0) else g j
theorem lt_00 (T : Nat → Int32) (x : Int32) (g : Nat → Int32) : fa_fill (fun _ => zI 0) g 24 = ltF T x g 0 := by
  funext j
  unfold ltF
  by_cases h : j < 24
  · rw [if_pos h, fa_fill_in h, if_neg (by omega)]
  · rw [if_neg h, fa_fill_out (by omega)]
theorem lt_s1 {T : Nat → Int32} {x : Int32} {g : Nat → Int32} {n z : Int} {i : Nat} (hi : i < 24) (hz : z = i) (h : atB T n x z = true) : addR (ltF T x g i) z (z + 1) = ltF T x g (i + 1) := by
  subst hz
  have h2 := (atB_r h).2
  rw [Int.toNat_natCast] at h2
  rw [addR_in (by omega), Int.toNat_natCast, show ((i : Int) + 1).toNat = i + 1 by omega]
  funext j
  by_cases q : j = i
  · subst q
    rw [pk_us]
    unfold ltF
    rw [if_pos hi, if_neg (by omega), if_pos hi, if_pos ⟨by omega, h2⟩, or_z0]
  · rw [pk_un q]
    unfold ltF
    by_cases a : j < 24
    · rw [if_pos a, if_pos a]
      by_cases b : T j = x
      · by_cases c : j < i
        · rw [if_pos ⟨c, b⟩, if_pos ⟨by omega, b⟩]
        · rw [if_neg (by omega), if_neg (by omega)]
      · rw [if_neg (fun e => b e.2), if_neg (fun e => b e.2)]
    · rw [if_neg a, if_neg a]
theorem lt_s0 {T : Nat → Int32} {x : Int32} {g : Nat → Int32} {n z : Int} {i : Nat} (hi : (i : Int) < n) (hz : z = i) (h : atB T n x z = false) : ltF T x g i = ltF T x g (i + 1) := by
  subst hz
  have h2 : ¬ T i = x := fun e => by
    rw [atB_t ⟨by omega, hi⟩ (by rw [Int.toNat_natCast]; exact e)] at h
    cases h
  funext j
  unfold ltF
  by_cases a : j < 24
  · rw [if_pos a, if_pos a]
    by_cases b : T j = x
    · have : j ≠ i := fun e => h2 (e ▸ b)
      by_cases c : j < i
      · rw [if_pos ⟨c, b⟩, if_pos ⟨by omega, b⟩]
      · rw [if_neg (by omega), if_neg (by omega)]
    · rw [if_neg (fun e => b e.2), if_neg (fun e => b e.2)]
  · rw [if_neg a, if_neg a]
/-- asked one by one -/
def aeB (P : Int → Int → Bool) (n : Int) (a b j t : Nat) : Bool := decide ((j : Int) < n ∧ j < t ∧ (t : Int) ≤ n ∧ (j < a ∨ (j = a ∧ t < b))) && P (j : Int) (t : Int)
def aeI (P : Int → Int → Bool) (n : Int) (a b : Nat) (G : Nat → Int32) : Prop := ∀ j, j < 24 → ∀ t, t < 32 → bt (G j) t = aeB P n a b j t
theorem ae_0 (P : Int → Int → Bool) (n : Int) (g : Nat → Int32) : aeI P n 0 0 (fa_fill (fun _ => zI 0) g 24) := fun j hj t _ => by
  rw [fa_fill_in hj, b_z0, aeB, decide_eq_false (by omega)]; rfl
theorem ae_i {P : Int → Int → Bool} {n : Int} {a : Nat} {G : Nat → Int32} (h : aeI P n a 0 G) : aeI P n a (a + 1) G := fun j hj t ht => by
  rw [h j hj t ht, aeB, aeB]
  by_cases q : (j : Int) < n ∧ j < t ∧ (t : Int) ≤ n ∧ (j < a ∨ (j = a ∧ t < 0))
  · rw [decide_eq_true q, decide_eq_true (by omega)]
  · rw [decide_eq_false q, decide_eq_false (by omega)]
theorem ae_n {P : Int → Int → Bool} {n : Int} {a b : Nat} {G : Nat → Int32} (h : aeI P n a b G) (hb : n < (b : Int)) : aeI P n (a + 1) 0 G := fun j hj t ht => by
  rw [h j hj t ht, aeB, aeB]
  by_cases q : (j : Int) < n ∧ j < t ∧ (t : Int) ≤ n ∧ (j < a ∨ (j = a ∧ t < b))
  · rw [decide_eq_true q, decide_eq_true (by omega)]
  · rw [decide_eq_false q, decide_eq_false (by omega)]
theorem ae_s0 {P : Int → Int → Bool} {n z w : Int} {a b : Nat} {G : Nat → Int32} (h : aeI P n a b G) (hz : z = a) (hw : w = b) (hp : P z w = false) : aeI P n a (b + 1) G := fun j hj t ht => by
  subst hz hw
  rw [h j hj t ht, aeB, aeB]
  by_cases e : j = a ∧ t = b
  · rw [e.1, e.2, hp, Bool.and_false, Bool.and_false]
  · by_cases q : (j : Int) < n ∧ j < t ∧ (t : Int) ≤ n ∧ (j < a ∨ (j = a ∧ t < b))
    · rw [decide_eq_true q, decide_eq_true (by omega)]
    · rw [decide_eq_false q, decide_eq_false (by omega)]
theorem ae_s1 {P : Int → Int → Bool} {n z w : Int} {a b : Nat} {G : Nat → Int32} (h : aeI P n a b G) (hz : z = a) (hw : w = b) (hp : P z w = true) (hr : (a : Int) < n ∧ a < b ∧ (b : Int) ≤ n ∧ n ≤ 24) : aeI P n a (b + 1) (addR G z w) := fun j hj t ht => by
  subst hz hw
  rw [addR_in (by omega), Int.toNat_natCast, Int.toNat_natCast]
  by_cases e : j = a
  · subst e
    rw [pk_us, b_or, bt_pw (by omega), h j hj t ht, aeB, aeB]
    by_cases f : t = b
    · subst f
      rw [hp, decide_eq_true (rfl : t = t), Bool.or_true, decide_eq_true (by omega)]; rfl
    · rw [decide_eq_false f, Bool.or_false]
      by_cases q : (j : Int) < n ∧ j < t ∧ (t : Int) ≤ n ∧ (j < j ∨ (j = j ∧ t < b))
      · rw [decide_eq_true q, decide_eq_true (by omega)]
      · rw [decide_eq_false q, decide_eq_false (by omega)]
  · rw [pk_un e, h j hj t ht, aeB, aeB]
    by_cases q : (j : Int) < n ∧ j < t ∧ (t : Int) ≤ n ∧ (j < a ∨ (j = a ∧ t < b))
    · rw [decide_eq_true q, decide_eq_true (by omega)]
    · rw [decide_eq_false q, decide_eq_false (by omega)]
def aeP (P : Int → Int → Bool) (n : Int) (G : Nat → Int32) : Prop := ∀ j, j < 24 → ∀ t, t < 32 → bt (G j) t = (decide ((j : Int) < n ∧ j < t ∧ (t : Int) ≤ n) && P (j : Int) (t : Int))
theorem ae_e {P : Int → Int → Bool} {n : Int} {a : Nat} {G : Nat → Int32} (h : aeI P n a 0 G) (ha : n ≤ (a : Int)) : aeP P n G := fun j hj t ht => by
  rw [h j hj t ht, aeB]
  by_cases q : (j : Int) < n ∧ j < t ∧ (t : Int) ≤ n
  · rw [decide_eq_true q, decide_eq_true (by omega)]
  · rw [decide_eq_false q, decide_eq_false (by omega)]
theorem gw_0 {v : Int} {g1 g2 : Nat → Int32} {z : Int} {i : Nat} (hz : z = i) (h : v = 0) : rowAt g1 z ||| rowAt g2 z = grF v g1 g2 i := by subst hz; unfold grF; rw [if_pos h]
theorem gw_1 {v : Int} {g1 g2 : Nat → Int32} {z : Int} {i : Nat} (hz : z = i) (h : v = 1) : rowAt g1 z &&& rowAt g2 z = grF v g1 g2 i := by subst hz; unfold grF; rw [if_neg (by omega), if_pos h]
theorem gw_2 {v : Int} {g1 g2 : Nat → Int32} {z : Int} {i : Nat} (hz : z = i) (h0 : ¬ v = 0) (h : ¬ v = 1) : rowAt g1 z &&& (rowAt g2 z ^^^ zI (-1)) = grF v g1 g2 i := by subst hz; unfold grF; rw [if_neg h0, if_neg h]
theorem ga_x {g1 g2 : Nat → Int32} {z m : Int} {i : Nat} (hz : z = i) (h : lbI g2 24 = m) : rowAt g1 z &&& upM m = gaF g1 g2 i := by subst hz h; rfl
theorem gb_1 {g1 g2 : Nat → Int32} {z m : Int} {i : Nat} (hz : z = i) (h : m = ((feN g2 24 : Nat) : Int)) (c : m ≤ z) : rowAt g1 z = gbF g1 g2 i := by subst hz; unfold gbF; rw [if_pos (by omega)]
theorem gb_0 {g1 g2 : Nat → Int32} {z m : Int} {i : Nat} (hz : z = i) (h : m = ((feN g2 24 : Nat) : Int)) (c : z < m) : zI 0 = gbF g1 g2 i := by subst hz; unfold gbF; rw [if_neg (by omega)]
theorem lb_e0 {g : Nat → Int32} {z : Int} (h : -1 ≤ z ∧ z < 0) (hl : lbI g 24 = lbI g (z + 1).toNat) : lbI g 24 = z := by
  rw [hl, show (z + 1).toNat = 0 by omega]
  unfold lbI
  omega
section PF
variable {v : Int} {g1 g2 : Nat → Int32}
theorem pf3 (h : v = 3) : paF v g1 g2 = ghF true g1 g2 := by unfold paF; rw [if_pos h]
theorem pf4 (h : v = 4) : paF v g1 g2 = ghF false g1 g2 := by unfold paF; rw [if_neg (by omega), if_pos h]
theorem pf5 (h : v = 5) : paF v g1 g2 = glF true g1 g2 := by unfold paF; rw [if_neg (by omega), if_neg (by omega), if_pos h]
theorem pf6 (h : v = 6) : paF v g1 g2 = glF false g1 g2 := by unfold paF; rw [if_neg (by omega), if_neg (by omega), if_neg (by omega), if_pos h]
theorem pf7 (h : v = 7) : paF v g1 g2 = gaF g1 g2 := by unfold paF; rw [if_neg (by omega), if_neg (by omega), if_neg (by omega), if_neg (by omega), if_pos h]
theorem pf8 (h : v = 8) : paF v g1 g2 = gbF g1 g2 := by unfold paF; rw [if_neg (by omega), if_neg (by omega), if_neg (by omega), if_neg (by omega), if_neg (by omega), if_pos h]
theorem pf0 (h : v < 3 ∨ 8 < v) : paF v g1 g2 = grF v g1 g2 := by unfold paF; rw [if_neg (by omega), if_neg (by omega), if_neg (by omega), if_neg (by omega), if_neg (by omega), if_neg (by omega)]
end PF
theorem lt_1 {T : Nat → Int32} {n : Int} {x : Int32} {z w : Int} (h : w = z + 1) (h2 : atB T n x z = true) : ltB T n x z w = true := by rw [ltB, decide_eq_true h, h2]; rfl
theorem lt_2 {T : Nat → Int32} {n : Int} {x : Int32} {z w : Int} (h : ¬ w = z + 1) : ltB T n x z w = false := by rw [ltB, decide_eq_false h]; rfl
theorem lt_3 {T : Nat → Int32} {n : Int} {x : Int32} {z w : Int} (h2 : atB T n x z = false) : ltB T n x z w = false := by rw [ltB, h2, Bool.and_false]
def spB (g : Nat → Int32) (z w : Int) : Bool := hasB g z w && decide (cwN g z (w - 1) (z + 1) w = 1)
theorem sp_1 {g : Nat → Int32} {z w : Int} (h : hasB g z w = true) (h2 : ((cwN g z (w - 1) (z + 1) w : Nat) : Int) = 1) : spB g z w = true := by rw [spB, h, decide_eq_true (by omega)]; rfl
theorem sp_0 {g : Nat → Int32} {z w : Int} (h2 : ¬ ((cwN g z (w - 1) (z + 1) w : Nat) : Int) = 1) : spB g z w = false := by rw [spB, decide_eq_false (by omega), Bool.and_false]
theorem sp_n {g : Nat → Int32} {z w : Int} (h : hasB g z w = false) : spB g z w = false := by rw [spB, h]; rfl
