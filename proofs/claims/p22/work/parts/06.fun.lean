/-! what the sets' methods answer, as plain functions -/
theorem zI_max {a b : Int} (ha : -2147483648 ≤ a ∧ a < 2147483648) (hb : -2147483648 ≤ b ∧ b < 2147483648) : (if zI a < zI b then zI b else zI a) = zI (max a b) := by
  by_cases h : a < b
  · rw [if_pos ((zI_lt ha hb).mpr h), Int.max_eq_right (by omega)]
  · rw [if_neg (fun q => h ((zI_lt ha hb).mp q)), Int.max_eq_left (by omega)]
theorem zI_min {a b : Int} (ha : -2147483648 ≤ a ∧ a < 2147483648) (hb : -2147483648 ≤ b ∧ b < 2147483648) : (if zI b < zI a then zI b else zI a) = zI (min a b) := by
  by_cases h : b < a
  · rw [if_pos ((zI_lt hb ha).mpr h), Int.min_eq_right (by omega)]
  · rw [if_neg (fun q => h ((zI_lt hb ha).mp q)), Int.min_eq_left (by omega)]
theorem up_id {f : Nat → va_E} {a : Nat} {e : va_E} (h : f a = e) : va_up f a e = f := by
  funext j
  by_cases q : j = a
  · subst q; rw [va_up_self, h]
  · rw [va_up_ne _ _ q]
def rowAt (g : Nat → Int32) (z : Int) : Int32 := if 0 ≤ z ∧ z < 24 then g z.toNat else zI 0
theorem rowAt_in {g : Nat → Int32} {z : Int} (h : 0 ≤ z ∧ z < 24) : rowAt g z = g z.toNat := if_pos h
theorem rowAt_out {g : Nat → Int32} {z : Int} (h : ¬ (0 ≤ z ∧ z < 24)) : rowAt g z = zI 0 := if_neg h
def hasB (g : Nat → Int32) (z w : Int) : Bool := decide (0 ≤ z ∧ z < 24 ∧ z < w ∧ w ≤ 24) && bt (g z.toNat) w.toNat
theorem hasB_t {g : Nat → Int32} {z w : Int} (h : 0 ≤ z ∧ z < 24 ∧ z < w ∧ w ≤ 24) (hb : bt (g z.toNat) w.toNat = true) : hasB g z w = true := by rw [hasB, decide_eq_true h, hb]; rfl
theorem hasB_f1 {g : Nat → Int32} {z w : Int} (h : ¬ (0 ≤ z ∧ z < 24 ∧ z < w ∧ w ≤ 24)) : hasB g z w = false := by rw [hasB, decide_eq_false h]; rfl
theorem hasB_f2 {g : Nat → Int32} {z w : Int} (hb : bt (g z.toNat) w.toNat = false) : hasB g z w = false := by rw [hasB, hb, Bool.and_false]
theorem bI_t {b : Bool} (h : b = true) : zI 1 = bI b := by rw [h]; decide
theorem bI_f {b : Bool} (h : b = false) : zI 0 = bI b := by rw [h]; decide
def setR (g : Nat → Int32) (z : Int) (x : Int32) : Nat → Int32 := if 0 ≤ z ∧ z < 24 then upd g z.toNat x else g
theorem setR_in {g : Nat → Int32} {z : Int} {x : Int32} (h : 0 ≤ z ∧ z < 24) : setR g z x = upd g z.toNat x := if_pos h
theorem setR_out {g : Nat → Int32} {z : Int} {x : Int32} (h : ¬ (0 ≤ z ∧ z < 24)) : setR g z x = g := if_neg h
def addR (g : Nat → Int32) (z w : Int) : Nat → Int32 := if 0 ≤ z ∧ z < 24 ∧ z < w ∧ w ≤ 24 then upd g z.toNat (g z.toNat ||| pw w.toNat) else g
theorem addR_in {g : Nat → Int32} {z w : Int} (h : 0 ≤ z ∧ z < 24 ∧ z < w ∧ w ≤ 24) : addR g z w = upd g z.toNat (g z.toNat ||| pw w.toNat) := if_pos h
theorem addR_out {g : Nat → Int32} {z w : Int} (h : ¬ (0 ≤ z ∧ z < 24 ∧ z < w ∧ w ≤ 24)) : addR g z w = g := if_neg h
def dropR (g : Nat → Int32) (z w : Int) : Nat → Int32 := if hasB g z w = true then setR g z (rowAt g z &&& (pw w.toNat ^^^ zI (-1))) else g
theorem dropR_t {g : Nat → Int32} {z w : Int} (h : hasB g z w = true) : dropR g z w = setR g z (rowAt g z &&& (pw w.toNat ^^^ zI (-1))) := if_pos h
theorem dropR_f {g : Nat → Int32} {z w : Int} (h : hasB g z w = false) : dropR g z w = g := if_neg (by rw [h]; decide)
def upM (z : Int) : Int32 := if z < 0 then zI 0 else if 24 < z then zI (-1) else pw (z + 1).toNat - zI 1
theorem upM_1 {z : Int} (h : z < 0) : upM z = zI 0 := if_pos h
theorem upM_2 {z : Int} (h : 24 < z) : upM z = zI (-1) := by unfold upM; rw [if_neg (by omega), if_pos h]
theorem upM_3 {z : Int} (h : 0 ≤ z ∧ z ≤ 24) : upM z = pw (z + 1).toNat - zI 1 := by unfold upM; rw [if_neg (by omega), if_neg (by omega)]
def onM (z : Int) : Int32 := upM (z - 1) ^^^ zI (-1)
theorem bt_upN : ∀ n, n ≤ 24 → ∀ i, i < 32 → bt (pw (n + 1) - zI 1) i = decide (i ≤ n) := by decide +kernel
theorem bt_upM {z : Int} {i : Nat} (hi : i ≤ 24) : bt (upM z) i = decide ((i : Int) ≤ z) := by
  by_cases h1 : z < 0
  · rw [upM_1 h1, b_z0, decide_eq_false (by omega)]
  · by_cases h2 : 24 < z
    · rw [upM_2 h2, show zI (-1) = -1 by decide, b_m1 i (by omega), decide_eq_true (by omega)]
    · obtain ⟨n, rfl⟩ := Int.eq_ofNat_of_zero_le (by omega : 0 ≤ z)
      rw [upM_3 (by omega), show ((n : Int) + 1).toNat = n + 1 by omega, bt_upN n (by omega) i (by omega)]
      by_cases q : i ≤ n
      · rw [decide_eq_true q, decide_eq_true (by omega)]
      · rw [decide_eq_false q, decide_eq_false (by omega)]
theorem bt_onM {z : Int} {i : Nat} (hi : i ≤ 24) : bt (onM z) i = decide (z ≤ (i : Int)) := by
  rw [onM, b_not (by omega), bt_upM hi]
  by_cases q : (i : Int) ≤ z - 1
  · rw [decide_eq_true q, decide_eq_false (by omega)]; rfl
  · rw [decide_eq_false q, decide_eq_true (by omega)]; rfl
/-- the least t with a < t < 25 of which the row has the bit, else 25 -/
def lowE (x : Int32) (a : Int) : Nat := fa_first (fun t => decide (a < (t : Int)) && bt x t) 25
/-- the greatest t of 1 to n of which the row has the bit, else 0 -/
def hiE (x : Int32) : Nat → Nat
  | 0 => 0
  | n + 1 => if bt x (n + 1) = true then n + 1 else hiE x n
theorem first_eq {p : Nat → Bool} {n e : Nat} (he : e ≤ n) (h1 : ∀ t, t < e → p t = false) (h2 : e = n ∨ p e = true) : fa_first p n = e := by
  rcases Nat.lt_trichotomy (fa_first p n) e with q | q | q
  · have a := h1 _ q
    rw [fa_first_yes p n (by omega)] at a
    cases a
  · exact q
  · rcases h2 with h | h
    · have := fa_first_le p n; omega
    · rw [fa_first_no p n e q] at h; cases h
def pc1 (x : Int32) : Nat := fb_ct (bt x) 32
def sizeR (g : Nat → Int32) : Nat := fb_sm (fun j => pc1 (g j)) 24
theorem ct_flat {p : Nat → Bool} {m : Nat} : ∀ {n : Nat}, m ≤ n → (∀ q, m ≤ q → q < n → p q = false) → fb_ct p n = fb_ct p m
  | 0, h, _ => by rw [Nat.le_zero.mp h]
  | n + 1, h, hf => by
    rcases Nat.lt_or_ge n m with q | q
    · rw [show m = n + 1 by omega]
    · rw [fb_ct_succ, ct_flat q (fun j a b => hf j a (by omega)), hf n q (by omega)]
      rfl
def linB (g : Nat → Int32) (q : Nat) : Bool := hasB g ((q / 25 : Nat) : Int) ((q % 25 : Nat) : Int)
theorem linB_at (g : Nat → Int32) {a b : Nat} (hb : b < 25) : linB g (25 * a + b) = hasB g (a : Int) (b : Int) := by
  unfold linB
  rw [show (25 * a + b) / 25 = a by omega, show (25 * a + b) % 25 = b by omega]
theorem linB_lo (g : Nat → Int32) {q : Nat} (h : q % 25 ≤ q / 25) : linB g q = false := hasB_f1 (by omega)
theorem linB_hi (g : Nat → Int32) {q : Nat} (h : 600 ≤ q) : linB g q = false := hasB_f1 (by omega)
def toldP (g : Nat → Int32) (z : Int) (r : Int32) : Prop := (∃ q, q < 600 ∧ linB g q = true ∧ ((fb_ct (linB g) q : Nat) : Int) = z ∧ r = zI (100 * ((q / 25 : Nat) : Int) + ((q % 25 : Nat) : Int))) ∨ ((∀ q, q < 600 → linB g q = true → ((fb_ct (linB g) q : Nat) : Int) ≠ z) ∧ r = zI (-1))
def cwP (g : Nat → Int32) (a b c d : Int) (q : Nat) : Bool := decide (a ≤ ((q / 25 : Nat) : Int) ∧ ((q / 25 : Nat) : Int) ≤ b ∧ c ≤ ((q % 25 : Nat) : Int) ∧ ((q % 25 : Nat) : Int) ≤ d) && linB g q
def cwN (g : Nat → Int32) (a b c d : Int) : Nat := fb_ct (cwP g a b c d) 625
theorem cwP_no {g : Nat → Int32} {a b c d : Int} {q : Nat} (h : ¬ (a ≤ ((q / 25 : Nat) : Int) ∧ ((q / 25 : Nat) : Int) ≤ b ∧ c ≤ ((q % 25 : Nat) : Int) ∧ ((q % 25 : Nat) : Int) ≤ d)) : cwP g a b c d q = false := by rw [cwP, decide_eq_false h]; rfl
theorem cwP_lo {g : Nat → Int32} {a b c d : Int} {q : Nat} (h : q % 25 ≤ q / 25) : cwP g a b c d q = false := by rw [cwP, linB_lo g h, Bool.and_false]
theorem cwP_in {g : Nat → Int32} {a b c d : Int} {i j : Nat} (hj : j < 25) (h : a ≤ (i : Int) ∧ (i : Int) ≤ b ∧ c ≤ (j : Int) ∧ (j : Int) ≤ d) : cwP g a b c d (25 * i + j) = hasB g (i : Int) (j : Int) := by
  rw [cwP, linB_at g hj, show (25 * i + j) / 25 = i by omega, show (25 * i + j) % 25 = j by omega, decide_eq_true h, Bool.true_and]
theorem cwP_1 {g : Nat → Int32} {a b c d : Int} {i j n : Nat} {z x : Int} (hj : j < 25) (hi : z = i) (hx : x = j) (h : a ≤ (i : Int) ∧ (i : Int) ≤ b ∧ c ≤ (j : Int) ∧ (j : Int) ≤ d) (hb : hasB g z x = true) (hn : n = fb_ct (cwP g a b c d) (25 * i + j)) : n + 1 = fb_ct (cwP g a b c d) (25 * i + (j + 1)) := by
  subst hi hx
  rw [show 25 * i + (j + 1) = (25 * i + j) + 1 by omega, fb_ct_succ, cwP_in hj h, hb, hn]
  rfl
theorem cwP_0 {g : Nat → Int32} {a b c d : Int} {i j n : Nat} {z x : Int} (hj : j < 25) (hi : z = i) (hx : x = j) (h : a ≤ (i : Int) ∧ (i : Int) ≤ b ∧ c ≤ (j : Int) ∧ (j : Int) ≤ d) (hb : hasB g z x = false) (hn : n = fb_ct (cwP g a b c d) (25 * i + j)) : n = fb_ct (cwP g a b c d) (25 * i + (j + 1)) := by
  subst hi hx
  rw [show 25 * i + (j + 1) = (25 * i + j) + 1 by omega, fb_ct_succ, cwP_in hj h, hb, hn]
  rfl
theorem lowE_eq {x : Int32} {a z : Int} (h1 : a < z) (h0 : 0 ≤ z) (h2 : z ≤ 25) (hno : ∀ t : Nat, (t : Int) < z → a < (t : Int) → bt x t = false) (h : z = 25 ∨ bt x z.toNat = true) : z = (lowE x a : Int) := by
  have e : lowE x a = z.toNat := first_eq (by omega) (fun t ht => by
    by_cases q : a < (t : Int)
    · rw [hno t (by omega) q, Bool.and_false]
    · rw [decide_eq_false q]; rfl) (by
    rcases h with h | h
    · left; omega
    · right; rw [decide_eq_true (by omega), h]; rfl)
  rw [e]; omega
theorem lowE_le (x : Int32) (a : Int) : lowE x a ≤ 25 := fa_first_le _ _
theorem lowE_gt {x : Int32} {a : Int} (ha : a < 25) : a < (lowE x a : Int) := by
  rcases Nat.lt_or_ge (lowE x a) 25 with h | h
  · have := fa_first_yes _ 25 h
    rw [Bool.and_eq_true] at this
    exact of_decide_eq_true this.1
  · have := lowE_le x a; omega
theorem hiE_le (x : Int32) : ∀ n, hiE x n ≤ n
  | 0 => Nat.le_refl 0
  | n + 1 => by
    unfold hiE
    split
    · exact Nat.le_refl _
    · exact Nat.le_succ_of_le (hiE_le x n)
theorem hiE_t {x : Int32} {z : Int} (h0 : 0 < z) (h : bt x z.toNat = true) : hiE x z.toNat = z.toNat := by
  obtain ⟨n, rfl⟩ : ∃ n : Nat, z = n + 1 := ⟨(z - 1).toNat, by omega⟩
  rw [show ((n : Int) + 1).toNat = n + 1 by omega] at h ⊢
  unfold hiE
  rw [if_pos h]
theorem hiE_f {x : Int32} {z : Int} (h0 : 0 < z) (h : bt x z.toNat = false) : hiE x z.toNat = hiE x (z - 1).toNat := by
  obtain ⟨n, rfl⟩ : ∃ n : Nat, z = n + 1 := ⟨(z - 1).toNat, by omega⟩
  rw [show ((n : Int) + 1).toNat = n + 1 by omega] at h ⊢
  rw [show ((n : Int) + 1 - 1).toNat = n by omega]
  conv => lhs; unfold hiE
  rw [if_neg (by rw [h]; decide)]
def ovN (g : Nat → Int32) (z : Int) : Nat := fb_sm (fun j => pc1 (rowAt g (j : Int) &&& onM (z + 1))) (z.toNat + 1)
def covN (g : Nat → Int32) : Nat := fb_ct (fun j => decide (0 < ovN g (j : Int))) 24
def mxN (F : Nat → Nat) : Nat → Nat
  | 0 => 0
  | n + 1 => max (mxN F n) (F n)
def mxI (F : Nat → Int) : Nat → Int
  | 0 => 0
  | n + 1 => max (mxI F n) (F n)
def depN (g : Nat → Int32) : Nat := mxN (fun j => ovN g (j : Int)) 24
def lonI (g : Nat → Int32) : Int := mxI (fun j => (hiE (rowAt g (j : Int)) 24 : Int) - (j : Int)) 24
theorem pc1_le (x : Int32) : pc1 x ≤ 32 := fb_ct_le _ 32
theorem ovN_le (g : Nat → Int32) {z : Int} (h : z < 25) : ovN g z ≤ 800 := by
  have := fb_sm_bound (f := fun j => pc1 (rowAt g (j : Int) &&& onM (z + 1))) (c := 32) (n := z.toNat + 1) (fun k _ => pc1_le _)
  unfold ovN
  omega
theorem mxN_le {F : Nat → Nat} {c : Nat} (h : ∀ j, F j ≤ c) : ∀ n, mxN F n ≤ c
  | 0 => Nat.zero_le _
  | n + 1 => by have := mxN_le h n; have := h n; unfold mxN; omega
theorem mxI_in {F : Nat → Int} {c : Int} (hc : 0 ≤ c) (h : ∀ j, F j ≤ c) : ∀ n, 0 ≤ mxI F n ∧ mxI F n ≤ c
  | 0 => ⟨Int.le_refl 0, hc⟩
  | n + 1 => by have := mxI_in hc h n; have := h n; unfold mxI; omega
def eoM (z : Int) (x : Int32) : Int32 := (x &&& upM z) ||| ((x &&& onM (z + 1)) <<< (zI 1 &&& 31))
def ecM (z : Int) (x : Int32) : Int32 := (x &&& upM z) ||| (Int32.toUInt32 (x &&& onM (z + 1)) >>> (Int32.toUInt32 (zI 1) &&& Int32.toUInt32 31)).toInt32
def op1 (g : Nat → Int32) (p : Int) (i : Int) : Nat → Int32 := fun j => if i < (j : Int) ∧ j < 24 then eoM p (g (j - 1)) else g j
def op2 (g : Nat → Int32) (p : Int) (i : Nat) : Nat → Int32 := fun j => if (j : Int) = p then zI 0 else if p < (j : Int) ∧ j < 24 then eoM p (g (j - 1)) else if j < i then eoM p (g j) else g j
theorem op1_0 (g : Nat → Int32) (p : Int) : op1 g p 23 = g := by
  funext j
  unfold op1
  rw [if_neg (by omega)]
theorem op1_s {g : Nat → Int32} {p i : Int} (h : 0 ≤ p ∧ p < i ∧ i ≤ 23) : upd (op1 g p i) i.toNat (eoM p (rowAt (op1 g p i) (i - 1))) = op1 g p (i - 1) := by
  funext j
  by_cases q : j = i.toNat
  · subst q
    rw [pk_us, rowAt_in (by omega)]
    unfold op1
    rw [if_neg (by omega), if_pos (by omega), show (i - 1).toNat = i.toNat - 1 by omega]
  · rw [pk_un q]
    unfold op1
    by_cases a : i < (j : Int) ∧ j < 24
    · rw [if_pos a, if_pos (by omega)]
    · rw [if_neg a, if_neg (by omega)]
theorem op2_0 {g : Nat → Int32} {p : Int} (h : 0 ≤ p ∧ p ≤ 23) : setR (op1 g p p) p (zI 0) = op2 g p 0 := by
  rw [setR_in (by omega)]
  funext j
  unfold op2
  by_cases q : j = p.toNat
  · subst q
    rw [pk_us, if_pos (by omega)]
  · rw [pk_un q, if_neg (by omega)]
    unfold op1
    by_cases a : p < (j : Int) ∧ j < 24
    · rw [if_pos a, if_pos a]
    · rw [if_neg a, if_neg a, if_neg (by omega)]
theorem op2_s {g : Nat → Int32} {p : Int} {i : Nat} (h : (i : Int) < p ∧ p ≤ 23) : upd (op2 g p i) i (eoM p (op2 g p i i)) = op2 g p (i + 1) := by
  funext j
  by_cases q : j = i
  · subst q
    rw [pk_us]
    unfold op2
    rw [if_neg (by omega), if_neg (by omega), if_neg (by omega), if_neg (by omega), if_neg (by omega), if_pos (by omega)]
  · rw [pk_un q]
    unfold op2
    by_cases a : (j : Int) = p
    · rw [if_pos a, if_pos a]
    · rw [if_neg a, if_neg a]
      by_cases b : p < (j : Int) ∧ j < 24
      · rw [if_pos b, if_pos b]
      · rw [if_neg b, if_neg b]
        by_cases c : j < i
        · rw [if_pos c, if_pos (by omega)]
        · rw [if_neg c, if_neg (by omega)]
def clF (g : Nat → Int32) (p : Int) (j : Nat) : Int32 := ecM p ((if (j : Int) ≤ p then rowAt g (j : Int) else zI 0) ||| (if p ≤ (j : Int) then rowAt g ((j : Int) + 1) else zI 0)) &&& onM ((j : Int) + 1)
theorem row_fill {F g : Nat → Int32} {i : Nat} {z : Int} (h : (i : Int) ≤ z) : rowAt (fa_fill F g i) z = rowAt g z := by
  unfold rowAt
  by_cases q : 0 ≤ z ∧ z < 24
  · rw [if_pos q, if_pos q, fa_fill_out (by omega)]
  · rw [if_neg q, if_neg q]
def jnA (g1 g2 : Nat → Int32) (gp : Int) (a : Nat) : Nat → Int32
  | 0 => zI 0
  | n + 1 => if rowAt g1 (a : Int) &&& (upM ((a : Int) + 1 + n) &&& onM ((a : Int) + 1 + n - gp)) = 0 then jnA g1 g2 gp a n else jnA g1 g2 gp a n ||| rowAt g2 ((a : Int) + 1 + n)
def jnF (g1 g2 : Nat → Int32) (gp : Int) (a : Nat) : Int32 := jnA g1 g2 gp a (23 - a)
def nrF (g : Nat → Int32) : Nat → Nat
  | 0 => 25
  | n + 1 => min (nrF g n) (lowE (g (23 - n)) ((23 - n : Nat) : Int))
theorem nrF_le (g : Nat → Int32) : ∀ n, nrF g n ≤ 25
  | 0 => Nat.le_refl _
  | n + 1 => by have := nrF_le g n; unfold nrF; omega
def kiF (g : Nat → Int32) (j : Nat) : Int32 := if lowE (g j) (j : Int) < nrF g (23 - j) then pw (lowE (g j) (j : Int)) else zI 0
def ki1 (g : Nat → Int32) (i : Int) : Nat → Int32 := fun j => if i < (j : Int) ∧ j < 24 then kiF g j else g j
theorem ki1_0 (g : Nat → Int32) : ki1 g 23 = g := by
  funext j
  unfold ki1
  rw [if_neg (by omega)]
theorem ki1_row {g : Nat → Int32} {i : Int} (h : 0 ≤ i ∧ i ≤ 23) : rowAt (ki1 g i) i = g i.toNat := by
  rw [rowAt_in (by omega)]
  unfold ki1
  rw [if_neg (by omega)]
theorem ki1_s {g : Nat → Int32} {i : Int} {x : Int32} (h : 0 ≤ i ∧ i ≤ 23) (hx : x = kiF g i.toNat) : upd (ki1 g i) i.toNat x = ki1 g (i - 1) := by
  funext j
  by_cases q : j = i.toNat
  · subst q
    rw [pk_us, hx]
    unfold ki1
    rw [if_pos (by omega)]
  · rw [pk_un q]
    unfold ki1
    by_cases a : i < (j : Int) ∧ j < 24
    · rw [if_pos a, if_pos (by omega)]
    · rw [if_neg a, if_neg (by omega)]
theorem ki1_e (g : Nat → Int32) : ki1 g (-1) = fa_fill (kiF g) g 24 := by
  funext j
  unfold ki1
  by_cases a : j < 24
  · rw [if_pos (by omega), fa_fill_in a]
  · rw [if_neg (by omega), fa_fill_out (by omega)]
def frF (g : Nat → Int32) : Nat → Nat
  | 0 => 0
  | n + 1 => max (frF g n) (hiE (g n) 24)
theorem frF_le (g : Nat → Int32) : ∀ n, frF g n ≤ 24
  | 0 => Nat.zero_le _
  | n + 1 => by have := frF_le g n; have := hiE_le (g n) 24; unfold frF; omega
def koF (g : Nat → Int32) (j : Nat) : Int32 := if frF g j < hiE (g j) 24 then pw (hiE (g j) 24) else zI 0
def anyN (p : Nat → Bool) : Nat → Bool
  | 0 => false
  | n + 1 => anyN p n || p n
theorem anyN_t {p : Nat → Bool} {j : Nat} (h : p j = true) : ∀ {n : Nat}, j < n → anyN p n = true
  | 0, hj => absurd hj (Nat.not_lt_zero _)
  | n + 1, hj => by
    unfold anyN
    rcases Nat.lt_or_ge j n with q | q
    · rw [anyN_t h q]; rfl
    · rw [show n = j by omega, h, Bool.or_true]
theorem anyN_f {p : Nat → Bool} : ∀ {n : Nat}, (∀ j, j < n → p j = false) → anyN p n = false
  | 0, _ => rfl
  | n + 1, h => by
    unfold anyN
    rw [anyN_f (fun j hj => h j (by omega)), h n (by omega)]; rfl
theorem anyN_iff {p : Nat → Bool} {n : Nat} : anyN p n = true ↔ ∃ j, j < n ∧ p j = true := by
  constructor
  · intro h
    apply Classical.byContradiction
    intro q
    rw [anyN_f (fun j hj => by
      cases e : p j with
      | false => rfl
      | true => exact absurd ⟨j, hj, e⟩ q)] at h
    cases h
  · rintro ⟨j, hj, h⟩
    exact anyN_t h hj
def ijP (g1 g2 : Nat → Int32) (gp a b : Int) (e : Nat) : Bool := decide (a < (e : Int) ∧ (e : Int) < b) && (hasB g1 a (e : Int) && decide (0 < cwN g2 (e : Int) (min ((e : Int) + gp) (b - 1)) b b))
def ijB (g1 g2 : Nat → Int32) (gp a b : Int) : Bool := anyN (ijP g1 g2 gp a b) 25
theorem told_c1 {g : Nat → Int32} {a b : Nat} {z3 z4 z2 : Int} (hb : b < 25) (h3 : z3 = a) (h4 : z4 = b) (h : hasB g z3 z4 = true) (h2 : z2 = ((fb_ct (linB g) (25 * a + b) : Nat) : Int)) : z2 + 1 = ((fb_ct (linB g) (25 * a + (b + 1)) : Nat) : Int) := by
  subst h3 h4
  rw [show 25 * a + (b + 1) = (25 * a + b) + 1 by omega, fb_ct_succ, linB_at g hb, h, h2, if_pos rfl]
  rfl
theorem told_c0 {g : Nat → Int32} {a b : Nat} {z3 z4 z2 : Int} (hb : b < 25) (h3 : z3 = a) (h4 : z4 = b) (h : hasB g z3 z4 = false) (h2 : z2 = ((fb_ct (linB g) (25 * a + b) : Nat) : Int)) : z2 = ((fb_ct (linB g) (25 * a + (b + 1)) : Nat) : Int) := by
  subst h3 h4
  rw [show 25 * a + (b + 1) = (25 * a + b) + 1 by omega, fb_ct_succ, linB_at g hb, h, h2, if_neg (by decide)]
  rfl
theorem told_n0 {g : Nat → Int32} {a : Nat} {z : Int} (hno : ∀ q, q < 25 * a → linB g q = true → ((fb_ct (linB g) q : Nat) : Int) ≠ z) : ∀ q, q < 25 * a + (a + 1) → linB g q = true → ((fb_ct (linB g) q : Nat) : Int) ≠ z := fun q h hl => by
  rcases Nat.lt_or_ge q (25 * a) with r | r
  · exact hno q r hl
  · rw [linB_lo g (by omega)] at hl; cases hl
theorem told_n1 {g : Nat → Int32} {a b : Nat} {z z3 z4 z2 : Int} (hb : b < 25) (h3 : z3 = a) (h4 : z4 = b) (h : hasB g z3 z4 = true) (h2 : z2 = ((fb_ct (linB g) (25 * a + b) : Nat) : Int)) (hz : z2 ≠ z) (hno : ∀ q, q < 25 * a + b → linB g q = true → ((fb_ct (linB g) q : Nat) : Int) ≠ z) : ∀ q, q < 25 * a + (b + 1) → linB g q = true → ((fb_ct (linB g) q : Nat) : Int) ≠ z := fun q hq hl => by
  rcases Nat.lt_or_ge q (25 * a + b) with r | r
  · exact hno q r hl
  · rw [show q = 25 * a + b by omega, ← h2]; exact hz
theorem told_n2 {g : Nat → Int32} {a b : Nat} {z z3 z4 : Int} (hb : b < 25) (h3 : z3 = a) (h4 : z4 = b) (h : hasB g z3 z4 = false) (hno : ∀ q, q < 25 * a + b → linB g q = true → ((fb_ct (linB g) q : Nat) : Int) ≠ z) : ∀ q, q < 25 * a + (b + 1) → linB g q = true → ((fb_ct (linB g) q : Nat) : Int) ≠ z := fun q hq hl => by
  rcases Nat.lt_or_ge q (25 * a + b) with r | r
  · exact hno q r hl
  · subst h3 h4
    rw [show q = 25 * a + b by omega, linB_at g hb, h] at hl; cases hl
theorem told_r {g : Nat → Int32} {a b : Nat} {z z3 z4 z2 : Int} (hb : b < 25) (h3 : z3 = a) (h4 : z4 = b) (h : hasB g z3 z4 = true) (h2 : z2 = ((fb_ct (linB g) (25 * a + b) : Nat) : Int)) (hz : z2 = z) (ha : a < 24) : toldP g z (zI (100 * z3 + z4)) := by
  subst h3 h4
  refine Or.inl ⟨25 * a + b, by omega, by rw [linB_at g hb, h], by rw [← h2, hz], ?_⟩
  rw [show (25 * a + b) / 25 = a by omega, show (25 * a + b) % 25 = b by omega]
theorem low_s {x : Int32} {z z3 : Int} (hno : ∀ t : Nat, (t : Int) < z3 → z < (t : Int) → bt x t = false) (h : bt x z3.toNat = false) (h0 : 0 ≤ z3) : ∀ t : Nat, (t : Int) < z3 + 1 → z < (t : Int) → bt x t = false := fun t h1 h2 => by
  rcases Int.lt_or_le (t : Int) z3 with q | q
  · exact hno t q h2
  · rw [show t = z3.toNat by omega]; exact h
theorem hi_r0 {x : Int32} {z : Int} (h : z = 0) (he : hiE x 24 = hiE x z.toNat) : zI z = zI (hiE x 24 : Int) := by
  subst h
  rw [he]
  rfl
theorem hi_r1 {x : Int32} {z : Int} (h : 0 < z) (hb : bt x z.toNat = true) (he : hiE x 24 = hiE x z.toNat) : zI z = zI (hiE x 24 : Int) := by
  rw [he, hiE_t h hb]
  congr 1
  omega
theorem hasB_rng {g : Nat → Int32} {z w : Int} (h : hasB g z w = true) : (0 ≤ z ∧ z < 24 ∧ z < w ∧ w ≤ 24) ∧ bt (g z.toNat) w.toNat = true := by
  rw [hasB, Bool.and_eq_true] at h
  exact ⟨of_decide_eq_true h.1, h.2⟩
