theorem mo_up : ∀ n : Nat, n ≤ 24 → (zI 2 <<< (zI (n : Int) &&& 31)) - zI 1 = upM (n : Int) := by decide +kernel
theorem mo_on : ∀ n : Nat, n ≤ 25 → zI (-1) <<< (zI (n : Int) &&& 31) = onM (n : Int) := by decide +kernel
theorem mo_up2 {z : Int} (h : 0 ≤ z ∧ z ≤ 24) : (zI 2 <<< (zI z &&& 31)) - zI 1 = upM z := by
  have := mo_up z.toNat (by omega)
  rwa [Int.toNat_of_nonneg h.1] at this
theorem mo_on2 {z : Int} (h : 0 ≤ z ∧ z ≤ 25) : zI (-1) <<< (zI z &&& 31) = onM z := by
  have := mo_on z.toNat (by omega)
  rwa [Int.toNat_of_nonneg h.1] at this
theorem anyN_k1 {p : Nat → Bool} {x : Nat} {b : Bool} (hb : b = anyN p x) (h : b = true) : true = anyN p (x + 1) := by
  show true = (anyN p x || p x); rw [← hb, h]; rfl
theorem anyN_k2 {p : Nat → Bool} {x : Nat} (h : p x = true) : true = anyN p (x + 1) := by
  show true = (anyN p x || p x); rw [h, Bool.or_true]
theorem anyN_k3 {p : Nat → Bool} {x : Nat} {b : Bool} (hb : b = anyN p x) (h : b = false) (h2 : p x = false) : false = anyN p (x + 1) := by
  show false = (anyN p x || p x); rw [← hb, h, h2]; rfl
def hwR (R : Nat → Int32) (i j t : Nat) (lo : Bool) (m : Int32) (x : Nat) : Int32 := if x = j ∧ lo = true then (R (25 * i + x) &&& m) &&& (pw t ^^^ zI (-1)) else R (25 * i + x) &&& m
theorem hwR_1 {R : Nat → Int32} {i j t : Nat} {lo : Bool} {m : Int32} {x : Nat} (h : ¬ x = j) : hwR R i j t lo m x = R (25 * i + x) &&& m := if_neg (fun q => h q.1)
theorem hwR_2 {R : Nat → Int32} {i j t : Nat} {lo : Bool} {m : Int32} {x : Nat} (h : lo = false) : hwR R i j t lo m x = R (25 * i + x) &&& m := if_neg (fun q => by rw [h] at q; exact absurd q.2 (by decide))
theorem hwR_3 {R : Nat → Int32} {i j t : Nat} {lo : Bool} {m : Int32} {x : Nat} (h : x = j) (h2 : lo = true) : hwR R i j t lo m x = (R (25 * i + x) &&& m) &&& (pw t ^^^ zI (-1)) := if_pos ⟨h, h2⟩
def hwP (R : Nat → Int32) (i j t : Nat) (lo : Bool) (x : Nat) : Bool := decide (j ≤ x) && !decide (hwR R i j t lo (upM (t : Int)) x = 0)
def hwB (R : Nat → Int32) (i j t : Nat) (lo : Bool) : Bool := anyN (hwP R i j t lo) t
theorem hwP_t {R : Nat → Int32} {i j t : Nat} {lo : Bool} {x : Nat} {y : Int32} (h1 : j ≤ x) (h2 : hwR R i j t lo (upM (t : Int)) x = y) (h3 : ¬ y = 0) : hwP R i j t lo x = true := by
  rw [hwP, h2, decide_eq_true h1, decide_eq_false h3]; rfl
theorem hwP_f {R : Nat → Int32} {i j t : Nat} {lo : Bool} {x : Nat} {y : Int32} (h2 : hwR R i j t lo (upM (t : Int)) x = y) (h3 : y = 0) : hwP R i j t lo x = false := by
  rw [hwP, h2, decide_eq_true h3, Bool.not_true, Bool.and_false]
def lwP (R : Nat → Int32) (i j t : Nat) (lo : Bool) (x : Nat) : Bool := !decide (hwR R i j t lo (onM (t : Int)) x = 0)
def lwB (R : Nat → Int32) (i j t : Nat) (lo : Bool) : Bool := anyN (lwP R i j t lo) (j + 1)
theorem lwP_t {R : Nat → Int32} {i j t : Nat} {lo : Bool} {x : Nat} {y : Int32} (h2 : hwR R i j t lo (onM (t : Int)) x = y) (h3 : ¬ y = 0) : lwP R i j t lo x = true := by
  rw [lwP, h2, decide_eq_false h3]; rfl
theorem lwP_f {R : Nat → Int32} {i j t : Nat} {lo : Bool} {x : Nat} {y : Int32} (h2 : hwR R i j t lo (onM (t : Int)) x = y) (h3 : y = 0) : lwP R i j t lo x = false := by
  rw [lwP, h2, decide_eq_true h3]; rfl
def bgP (R : Nat → Int32) (i q x : Nat) : Bool := decide (q ≤ x) && !decide (R (25 * i + x) = 0)
def bgB (R : Nat → Int32) (i q : Nat) : Bool := anyN (bgP R i q) 25
theorem bgP_t {R : Nat → Int32} {i q x : Nat} (h1 : q ≤ x) (h : ¬ R (25 * i + x) = 0) : bgP R i q x = true := by rw [bgP, decide_eq_true h1, decide_eq_false h]; rfl
theorem bgP_f {R : Nat → Int32} {i q x : Nat} (h : R (25 * i + x) = 0) : bgP R i q x = false := by rw [bgP, decide_eq_true h, Bool.not_true, Bool.and_false]
def euP (R : Nat → Int32) (i q x : Nat) : Bool := !decide (R (25 * i + x) &&& upM (q : Int) = 0)
def euB (R : Nat → Int32) (i q : Nat) : Bool := anyN (euP R i q) 25
theorem euP_t {R : Nat → Int32} {i q x : Nat} (h : ¬ R (25 * i + x) &&& upM (q : Int) = 0) : euP R i q x = true := by rw [euP, decide_eq_false h]; rfl
theorem euP_f {R : Nat → Int32} {i q x : Nat} (h : R (25 * i + x) &&& upM (q : Int) = 0) : euP R i q x = false := by rw [euP, decide_eq_true h]; rfl
def moB (R : Nat → Int32) (w i j t : Nat) : Bool := if w = 1 then bt (R (25 * i + j)) t else if w = 2 then !bt (R (25 * i + j)) t else if w = 3 then hwB R i j t false else if w = 4 then !hwB R i j t false else if w = 5 then lwB R i j t false else if w = 6 then !lwB R i j t false else if w = 7 then bgB R i t else if w = 8 then euB R i j else if w = 13 then !hwB R i j t true else !lwB R i j t true

set_option maxHeartbeats 4000000 in
set_option maxRecDepth 100000 in
theorem kX10_upTo (l : Launch) (D : va_G) (k : Nat → ClassId) (L : List Nat) (f : Nat → va_E) (z : Int) (hz : 0 ≤ z ∧ z ≤ 24) : Met l yX10_upTo wsX10_upTo ({ frames := 0, cells := 0, slots := 0, locals := 0 } : Room) (va_Pc [.int (zI (z))] (rPre D (tyL k) (va_pl L f))) (vp_Si (fun r9 => r9 = upM z)) 0 0 (fun _ => False) := by
  refine Met.ofW (cc := cX10_upTo) (maxL := 1) (ret := (some .int)) (by decide) rfl ?_
  intro p e s m args below meth c s₁ B hml hv
  obtain ⟨rfl, hP, hC⟩ := hv
  have hK := hC.1
  have hNW := hC.2.1
  have hx := B.exec
  have hb := B.bytes
  have hrt := B.returns
  have hts := atoms_spec (ws := wsX10_upTo) B.pre
  have hown : s.vm.findClass RX10 = some m.cls := findClass_of_methodNamed B.named
  have hlocks := B.notSynchronized
  have hl := lv_entry ([.int (zI (z))]) (n := 1) (Nat.le_of_ble_eq_true rfl)
  rw [lg_entry_eq]
  generalize (lg_sl ([.int (zI (z))]) ++ List.replicate (1 - (lg_sl ([.int (zI (z))])).length) Slot.unset).toArray = ls at hl ⊢
  have hl : lv_has ls 1 [(0, .int (zI (z)))] := hl
  obtain ⟨Q, hQ⟩ : ∃ Q, Q = MQ below (vp_Si (fun r9 => r9 = upM z)) ([.int (zI (z))] : List Value).toArray s 0 0 (fun _ => False) := ⟨_, rfl⟩
  rw [← hQ]
  refine zr_const hx hb dX10_upTo_0 ?_
  refine lv_iload_n hx hb dX10_upTo_1 rfl (lv_at hl 0 rfl) ?_
  refine lv_ishl hx hb dX10_upTo_2 ?_
  refine zr_const hx hb dX10_upTo_3 ?_
  refine lv_isub hx hb dX10_upTo_4 ?_
  rw [hQ]
  exact rc_iret hx hb hrt (mo_up2 hz) dX10_upTo_5 hlocks

set_option maxHeartbeats 4000000 in
set_option maxRecDepth 100000 in
theorem kX10_fromOn (l : Launch) (D : va_G) (k : Nat → ClassId) (L : List Nat) (f : Nat → va_E) (z : Int) (hz : 0 ≤ z ∧ z ≤ 25) : Met l yX10_fromOn wsX10_fromOn ({ frames := 0, cells := 0, slots := 0, locals := 0 } : Room) (va_Pc [.int (zI (z))] (rPre D (tyL k) (va_pl L f))) (vp_Si (fun r9 => r9 = onM z)) 0 0 (fun _ => False) := by
  refine Met.ofW (cc := cX10_fromOn) (maxL := 1) (ret := (some .int)) (by decide) rfl ?_
  intro p e s m args below meth c s₁ B hml hv
  obtain ⟨rfl, hP, hC⟩ := hv
  have hK := hC.1
  have hNW := hC.2.1
  have hx := B.exec
  have hb := B.bytes
  have hrt := B.returns
  have hts := atoms_spec (ws := wsX10_fromOn) B.pre
  have hown : s.vm.findClass RX10 = some m.cls := findClass_of_methodNamed B.named
  have hlocks := B.notSynchronized
  have hl := lv_entry ([.int (zI (z))]) (n := 1) (Nat.le_of_ble_eq_true rfl)
  rw [lg_entry_eq]
  generalize (lg_sl ([.int (zI (z))]) ++ List.replicate (1 - (lg_sl ([.int (zI (z))])).length) Slot.unset).toArray = ls at hl ⊢
  have hl : lv_has ls 1 [(0, .int (zI (z)))] := hl
  obtain ⟨Q, hQ⟩ : ∃ Q, Q = MQ below (vp_Si (fun r9 => r9 = onM z)) ([.int (zI (z))] : List Value).toArray s 0 0 (fun _ => False) := ⟨_, rfl⟩
  rw [← hQ]
  refine zr_const hx hb dX10_fromOn_0 ?_
  refine lv_iload_n hx hb dX10_fromOn_1 rfl (lv_at hl 0 rfl) ?_
  refine lv_ishl hx hb dX10_fromOn_2 ?_
  rw [hQ]
  exact rc_iret hx hb hrt (mo_on2 hz) dX10_fromOn_3 hlocks

set_option maxHeartbeats 4000000 in
set_option maxRecDepth 100000 in
theorem kX10_hasWithin (l : Launch) (D : va_G) (k : Nat → ClassId) (L : List Nat) (f : Nat → va_E) (a : Nat → Nat) (tw n cn : Int) (A1 A2 A3 A4 A5 A6 A7 A8 A9 A10 : Nat → Int32) (hM : mRep k L f a tw n cn A1 A2 A3 A4 A5 A6 A7 A8 A9 A10) (hMC : 0 ≤ cn ∧ cn ≤ 30) (hMT : 0 ≤ tw ∧ tw ≤ 3) (hMN : 0 ≤ n ∧ n ≤ 24) (i j t : Nat) (lo : Bool) (hi : i < 30) (hj : j < t) (ht : t ≤ 24) : Met l yX10_hasWithin wsX10_hasWithin ({ frames := 1, cells := 0, slots := 0, locals := 20 } : Room) (va_Pc [.ref (a 0), .int (zI ((i : Int))), .int (zI ((j : Int))), .int (zI ((t : Int))), .int (bI (lo))] (rPre D (tyL k) (va_pl L f))) (vp_Si (fun r9 => r9 = bI (hwB A9 i j t lo))) 0 0 (fun _ => False) := by
  refine Met.ofW (cc := cX10_hasWithin) (maxL := 8) (ret := (some .boolean)) (by decide) rfl ?_
  intro p e s m args below meth c s₁ B hml hv
  obtain ⟨rfl, hP, hC⟩ := hv
  have hK := hC.1
  have hNW := hC.2.1
  have hx := B.exec
  have hb := B.bytes
  have hrt := B.returns
  have hts := atoms_spec (ws := wsX10_hasWithin) B.pre
  have hown : s.vm.findClass RX10 = some m.cls := findClass_of_methodNamed B.named
  have hlocks := B.notSynchronized
  have hi_X10 : ∀ w ∈ u_ws RX10 TX10 13, w ∈ wsX10_hasWithin := by decide +kernel
  have hw_0 := hts (.fieldLink RX10 35 "RegionryModel" "rows" "[I") (by decide +kernel)
  have hl := lv_entry ([.ref (a 0), .int (zI ((i : Int))), .int (zI ((j : Int))), .int (zI ((t : Int))), .int (bI (lo))]) (n := 8) (Nat.le_of_ble_eq_true rfl)
  rw [lg_entry_eq]
  generalize (lg_sl ([.ref (a 0), .int (zI ((i : Int))), .int (zI ((j : Int))), .int (zI ((t : Int))), .int (bI (lo))]) ++ List.replicate (8 - (lg_sl ([.ref (a 0), .int (zI ((i : Int))), .int (zI ((j : Int))), .int (zI ((t : Int))), .int (bI (lo))])).length) Slot.unset).toArray = ls at hl ⊢
  have hl : lv_has ls 8 [(0, .ref (a 0)), (1, .int (zI ((i : Int)))), (2, .int (zI ((j : Int)))), (3, .int (zI ((t : Int)))), (4, .int (bI (lo)))] := hl
  obtain ⟨Q, hQ⟩ : ∃ Q, Q = MQ below (vp_Si (fun r9 => r9 = bI (hwB A9 i j t lo))) ([.ref (a 0), .int (zI ((i : Int))), .int (zI ((j : Int))), .int (zI ((t : Int))), .int (bI (lo))] : List Value).toArray s 0 0 (fun _ => False) := ⟨_, rfl⟩
  rw [← hQ]
  refine zr_const hx hb dX10_hasWithin_0 ?_
  refine zr_top (y := bI false) (by decide) ?_
  refine lv_istore (lv' := [(5, .int (bI (false))), (0, .ref (a 0)), (1, .int (zI ((i : Int)))), (2, .int (zI ((j : Int)))), (3, .int (zI ((t : Int)))), (4, .int (bI (lo)))]) hx hb dX10_hasWithin_1 hl (by decide) rfl (fun ls hl => ?_)
  refine lv_iload_n hx hb dX10_hasWithin_3 rfl (lv_at hl 3 rfl) ?_
  refine lv_istore (lv' := [(6, .int (zI ((j : Int)))), (5, .int (bI (false))), (0, .ref (a 0)), (1, .int (zI ((i : Int)))), (2, .int (zI ((j : Int)))), (3, .int (zI ((t : Int)))), (4, .int (bI (lo)))]) hx hb dX10_hasWithin_4 hl (by decide) rfl (fun ls hl => ?_)
  have cut_6 : ∀ (n9 : Nat) (x : Nat) (b9 : Bool) (z9 : Int), (j ≤ x ∧ x ≤ t) → (z9 = x) → (b9 = anyN (hwP A9 i j t lo) x) → (t : Int) - z9 < (n9 : Int) → ∀ (ls : Array Slot), lv_has ls 8 [(0, .ref (a 0)), (1, .int (zI ((i : Int)))), (2, .int (zI ((j : Int)))), (3, .int (zI ((t : Int)))), (4, .int (bI (lo))), (5, .int (bI (b9))), (6, .int (zI (z9)))] → W p l e (headSpec wsX10_hasWithin ({ frames := 1, cells := 0, slots := 0, locals := 20 } : Room)).room s m ([.ref (a 0), .int (zI ((i : Int))), .int (zI ((j : Int))), .int (zI ((t : Int))), .int (bI (lo))] : List Value).toArray below meth c s.heap [] 0 0 Q (F0 m 6 ls []) := by
    intro n9
    induction n9 with
    | zero =>
      intro x b9 z9 hk hz9 hb9 hfu
      exact absurd hfu (by omega)
    | succ n9 ih_6 =>
      intro x b9 z9 hk hz9 hb9 hfu ls hl
      refine lv_iload hx hb dX10_hasWithin_6 (lv_at hl 6 rfl) ?_
      refine lv_iload_n hx hb dX10_hasWithin_8 rfl (lv_at hl 3 rfl) ?_
      refine zr_icmp_ge (tgt := 80) hx hb dX10_hasWithin_9 (by decide) (by omega) (by omega) (fun c1 => ?_) (fun c1 => ?_)
      · refine lv_iload hx hb dX10_hasWithin_80 (lv_at hl 5 rfl) ?_
        rw [hQ]
        exact rc_zret hx hb hrt (by obtain rfl : x = t := (by omega); exact congrArg bI hb9) dX10_hasWithin_82 hlocks
      · refine lv_aload_n hx hb dX10_hasWithin_12 rfl (lv_at hl 0 rfl) ?_
        refine pl_get (ci := 9) (v := .ref (a 9)) (C := RX10) (T := TX10) (N := 13) hx hb hts hi_X10 hown hK hP (hM.2.2.2.2.2.2.2.2.2.2.2.1 0 (by decide)) hM.1 rfl 11 (by decide) hw_0 (fun _ h9 => h9) rfl dX10_hasWithin_13 ?_
        refine zr_bipush hx hb dX10_hasWithin_16 (by decide) ?_
        refine lv_iload_n hx hb dX10_hasWithin_18 rfl (lv_at hl 1 rfl) ?_
        refine zr_mul hx hb dX10_hasWithin_19 ?_
        refine lv_iload hx hb dX10_hasWithin_20 (lv_at hl 6 rfl) ?_
        refine zr_add hx hb dX10_hasWithin_22 ?_
        refine pl_iald hx hb hK hP (hM.2.2.2.2.2.2.2.2.2.2.2.1 9 (by decide)) 0 hM.2.2.2.2.2.2.2.2.2.1 rfl (25 * i + x) (by omega) (by omega) (by decide) dX10_hasWithin_23 ?_
        refine lv_iload_n hx hb dX10_hasWithin_24 rfl (lv_at hl 3 rfl) ?_
        refine vp_callSi (va_Run.run (va_runS (As := [.int (zI ((t : Int)))]) (rest := [.int (A9 (25 * i + x))]) ⟨hx, hb, hml, hown, hts⟩ (kX10_upTo l D k L f ((t : Int)) (by omega)) (va_cwS 1 hts gX10_hasWithin_X10_upTo rfl rfl rfl (by decide +kernel) ⟨Nat.le_of_ble_eq_true rfl, Nat.le_of_ble_eq_true rfl⟩) (rc_preS hC hP) rfl rfl hl.1 rfl (lv_room (Nat.le_of_ble_eq_true rfl)) dX10_hasWithin_25 ⟨Nat.zero_le _, Nat.zero_le _⟩)) (fun r2 hr2 => ?_)
        subst hr2
        refine lv_iand hx hb dX10_hasWithin_28 ?_
        refine lv_istore (lv' := [(7, .int ((A9 (25 * i + x)) &&& (upM ((t : Int))))), (0, .ref (a 0)), (1, .int (zI ((i : Int)))), (2, .int (zI ((j : Int)))), (3, .int (zI ((t : Int)))), (4, .int (bI (lo))), (5, .int (bI (b9))), (6, .int (zI (z9)))]) hx hb dX10_hasWithin_29 hl (by decide) rfl (fun ls hl => ?_)
        refine lv_iload hx hb dX10_hasWithin_31 (lv_at hl 7 rfl) ?_
        refine lv_iload_n hx hb dX10_hasWithin_33 rfl (lv_at hl 3 rfl) ?_
        refine zr_icmp_ne (tgt := 53) hx hb dX10_hasWithin_34 (by decide) (by omega) (by omega) (fun c3 => ?_) (fun c3 => ?_)
        · refine lv_iload hx hb dX10_hasWithin_53 (lv_at hl 0 rfl) ?_
          refine lv_istore (lv' := [(7, .int ((A9 (25 * i + x)) &&& (upM ((t : Int))))), (0, .ref (a 0)), (1, .int (zI ((i : Int)))), (2, .int (zI ((j : Int)))), (3, .int (zI ((t : Int)))), (4, .int (bI (lo))), (5, .int (bI (b9))), (6, .int (zI (z9)))]) hx hb dX10_hasWithin_55 hl (by decide) rfl (fun ls hl => ?_)
          refine lv_iload hx hb dX10_hasWithin_57 (lv_at hl 6 rfl) ?_
          refine zr_ifb_ne (tgt := 67) hx hb dX10_hasWithin_59 (by decide) (fun c4 => ?_) (fun c4 => ?_)
          · refine zr_const hx hb dX10_hasWithin_67 ?_
            refine lv_goto (tgt := 72) hx hb dX10_hasWithin_68 (by decide) ?_
            refine zr_top (y := bI true) (by decide) ?_
            refine lv_istore (lv' := [(5, .int (bI (true))), (7, .int ((A9 (25 * i + x)) &&& (upM ((t : Int))))), (0, .ref (a 0)), (1, .int (zI ((i : Int)))), (2, .int (zI ((j : Int)))), (3, .int (zI ((t : Int)))), (4, .int (bI (lo))), (6, .int (zI (z9)))]) hx hb dX10_hasWithin_72 hl (by decide) rfl (fun ls hl => ?_)
            refine zr_iinc (k := 7) (lv' := [(6, .int (zI (z9 + 1))), (5, .int (bI (true))), (7, .int ((A9 (25 * i + x)) &&& (upM ((t : Int))))), (0, .ref (a 0)), (1, .int (zI ((i : Int)))), (2, .int (zI ((j : Int)))), (3, .int (zI ((t : Int)))), (4, .int (bI (lo)))]) hx hb dX10_hasWithin_74 hl rfl (by decide) rfl (fun ls hl => ?_)
            refine lv_goto (tgt := 6) hx hb dX10_hasWithin_77 (by decide) ?_
            exact ih_6 (x + 1) (true) (z9 + 1) (by omega) (by omega) (by first | exact anyN_k1 hb9 (by assumption) | exact anyN_k2 (hwP_t hk.1 (by first | exact hwR_1 (by omega) | exact hwR_2 (by assumption) | exact hwR_3 (by omega) (by assumption)) (by assumption)) | exact anyN_k3 hb9 (by assumption) (hwP_f (by first | exact hwR_1 (by omega) | exact hwR_2 (by assumption) | exact hwR_3 (by omega) (by assumption)) (by assumption))) (by omega) _ (lv_sub hl [3, 4, 5, 6, 7, 1, 0] rfl)
          · refine lv_iload hx hb dX10_hasWithin_62 (lv_at hl 0 rfl) ?_
            refine lv_if_eq (tgt := 71) hx hb dX10_hasWithin_64 (by decide) (fun c5 => ?_) (fun c5 => ?_)
            · refine zr_const hx hb dX10_hasWithin_71 ?_
              refine zr_top (y := bI false) (by decide) ?_
              refine lv_istore (lv' := [(5, .int (bI (false))), (7, .int ((A9 (25 * i + x)) &&& (upM ((t : Int))))), (0, .ref (a 0)), (1, .int (zI ((i : Int)))), (2, .int (zI ((j : Int)))), (3, .int (zI ((t : Int)))), (4, .int (bI (lo))), (6, .int (zI (z9)))]) hx hb dX10_hasWithin_72 hl (by decide) rfl (fun ls hl => ?_)
              refine zr_iinc (k := 7) (lv' := [(6, .int (zI (z9 + 1))), (5, .int (bI (false))), (7, .int ((A9 (25 * i + x)) &&& (upM ((t : Int))))), (0, .ref (a 0)), (1, .int (zI ((i : Int)))), (2, .int (zI ((j : Int)))), (3, .int (zI ((t : Int)))), (4, .int (bI (lo)))]) hx hb dX10_hasWithin_74 hl rfl (by decide) rfl (fun ls hl => ?_)
              refine lv_goto (tgt := 6) hx hb dX10_hasWithin_77 (by decide) ?_
              exact ih_6 (x + 1) (false) (z9 + 1) (by omega) (by omega) (by first | exact anyN_k1 hb9 (by assumption) | exact anyN_k2 (hwP_t hk.1 (by first | exact hwR_1 (by omega) | exact hwR_2 (by assumption) | exact hwR_3 (by omega) (by assumption)) (by assumption)) | exact anyN_k3 hb9 (by assumption) (hwP_f (by first | exact hwR_1 (by omega) | exact hwR_2 (by assumption) | exact hwR_3 (by omega) (by assumption)) (by assumption))) (by omega) _ (lv_sub hl [3, 4, 5, 6, 7, 1, 0] rfl)
            · refine zr_const hx hb dX10_hasWithin_67 ?_
              refine lv_goto (tgt := 72) hx hb dX10_hasWithin_68 (by decide) ?_
              refine zr_top (y := bI true) (by decide) ?_
              refine lv_istore (lv' := [(5, .int (bI (true))), (7, .int ((A9 (25 * i + x)) &&& (upM ((t : Int))))), (0, .ref (a 0)), (1, .int (zI ((i : Int)))), (2, .int (zI ((j : Int)))), (3, .int (zI ((t : Int)))), (4, .int (bI (lo))), (6, .int (zI (z9)))]) hx hb dX10_hasWithin_72 hl (by decide) rfl (fun ls hl => ?_)
              refine zr_iinc (k := 7) (lv' := [(6, .int (zI (z9 + 1))), (5, .int (bI (true))), (7, .int ((A9 (25 * i + x)) &&& (upM ((t : Int))))), (0, .ref (a 0)), (1, .int (zI ((i : Int)))), (2, .int (zI ((j : Int)))), (3, .int (zI ((t : Int)))), (4, .int (bI (lo)))]) hx hb dX10_hasWithin_74 hl rfl (by decide) rfl (fun ls hl => ?_)
              refine lv_goto (tgt := 6) hx hb dX10_hasWithin_77 (by decide) ?_
              exact ih_6 (x + 1) (true) (z9 + 1) (by omega) (by omega) (by first | exact anyN_k1 hb9 (by assumption) | exact anyN_k2 (hwP_t hk.1 (by first | exact hwR_1 (by omega) | exact hwR_2 (by assumption) | exact hwR_3 (by omega) (by assumption)) (by assumption)) | exact anyN_k3 hb9 (by assumption) (hwP_f (by first | exact hwR_1 (by omega) | exact hwR_2 (by assumption) | exact hwR_3 (by omega) (by assumption)) (by assumption))) (by omega) _ (lv_sub hl [3, 4, 5, 6, 7, 1, 0] rfl)
        · refine lv_iload hx hb dX10_hasWithin_37 (lv_at hl 5 rfl) ?_
          refine zr_ifb_eq (tgt := 53) hx hb dX10_hasWithin_39 (by decide) (fun c6 => ?_) (fun c6 => ?_)
          · refine lv_iload hx hb dX10_hasWithin_53 (lv_at hl 0 rfl) ?_
            refine lv_istore (lv' := [(7, .int ((A9 (25 * i + x)) &&& (upM ((t : Int))))), (0, .ref (a 0)), (1, .int (zI ((i : Int)))), (2, .int (zI ((j : Int)))), (3, .int (zI ((t : Int)))), (4, .int (bI (lo))), (5, .int (bI (b9))), (6, .int (zI (z9)))]) hx hb dX10_hasWithin_55 hl (by decide) rfl (fun ls hl => ?_)
            refine lv_iload hx hb dX10_hasWithin_57 (lv_at hl 6 rfl) ?_
            refine zr_ifb_ne (tgt := 67) hx hb dX10_hasWithin_59 (by decide) (fun c7 => ?_) (fun c7 => ?_)
            · refine zr_const hx hb dX10_hasWithin_67 ?_
              refine lv_goto (tgt := 72) hx hb dX10_hasWithin_68 (by decide) ?_
              refine zr_top (y := bI true) (by decide) ?_
              refine lv_istore (lv' := [(5, .int (bI (true))), (7, .int ((A9 (25 * i + x)) &&& (upM ((t : Int))))), (0, .ref (a 0)), (1, .int (zI ((i : Int)))), (2, .int (zI ((j : Int)))), (3, .int (zI ((t : Int)))), (4, .int (bI (lo))), (6, .int (zI (z9)))]) hx hb dX10_hasWithin_72 hl (by decide) rfl (fun ls hl => ?_)
              refine zr_iinc (k := 7) (lv' := [(6, .int (zI (z9 + 1))), (5, .int (bI (true))), (7, .int ((A9 (25 * i + x)) &&& (upM ((t : Int))))), (0, .ref (a 0)), (1, .int (zI ((i : Int)))), (2, .int (zI ((j : Int)))), (3, .int (zI ((t : Int)))), (4, .int (bI (lo)))]) hx hb dX10_hasWithin_74 hl rfl (by decide) rfl (fun ls hl => ?_)
              refine lv_goto (tgt := 6) hx hb dX10_hasWithin_77 (by decide) ?_
              exact ih_6 (x + 1) (true) (z9 + 1) (by omega) (by omega) (by first | exact anyN_k1 hb9 (by assumption) | exact anyN_k2 (hwP_t hk.1 (by first | exact hwR_1 (by omega) | exact hwR_2 (by assumption) | exact hwR_3 (by omega) (by assumption)) (by assumption)) | exact anyN_k3 hb9 (by assumption) (hwP_f (by first | exact hwR_1 (by omega) | exact hwR_2 (by assumption) | exact hwR_3 (by omega) (by assumption)) (by assumption))) (by omega) _ (lv_sub hl [3, 4, 5, 6, 7, 1, 0] rfl)
            · refine lv_iload hx hb dX10_hasWithin_62 (lv_at hl 0 rfl) ?_
              refine lv_if_eq (tgt := 71) hx hb dX10_hasWithin_64 (by decide) (fun c8 => ?_) (fun c8 => ?_)
              · refine zr_const hx hb dX10_hasWithin_71 ?_
                refine zr_top (y := bI false) (by decide) ?_
                refine lv_istore (lv' := [(5, .int (bI (false))), (7, .int ((A9 (25 * i + x)) &&& (upM ((t : Int))))), (0, .ref (a 0)), (1, .int (zI ((i : Int)))), (2, .int (zI ((j : Int)))), (3, .int (zI ((t : Int)))), (4, .int (bI (lo))), (6, .int (zI (z9)))]) hx hb dX10_hasWithin_72 hl (by decide) rfl (fun ls hl => ?_)
                refine zr_iinc (k := 7) (lv' := [(6, .int (zI (z9 + 1))), (5, .int (bI (false))), (7, .int ((A9 (25 * i + x)) &&& (upM ((t : Int))))), (0, .ref (a 0)), (1, .int (zI ((i : Int)))), (2, .int (zI ((j : Int)))), (3, .int (zI ((t : Int)))), (4, .int (bI (lo)))]) hx hb dX10_hasWithin_74 hl rfl (by decide) rfl (fun ls hl => ?_)
                refine lv_goto (tgt := 6) hx hb dX10_hasWithin_77 (by decide) ?_
                exact ih_6 (x + 1) (false) (z9 + 1) (by omega) (by omega) (by first | exact anyN_k1 hb9 (by assumption) | exact anyN_k2 (hwP_t hk.1 (by first | exact hwR_1 (by omega) | exact hwR_2 (by assumption) | exact hwR_3 (by omega) (by assumption)) (by assumption)) | exact anyN_k3 hb9 (by assumption) (hwP_f (by first | exact hwR_1 (by omega) | exact hwR_2 (by assumption) | exact hwR_3 (by omega) (by assumption)) (by assumption))) (by omega) _ (lv_sub hl [3, 4, 5, 6, 7, 1, 0] rfl)
              · refine zr_const hx hb dX10_hasWithin_67 ?_
                refine lv_goto (tgt := 72) hx hb dX10_hasWithin_68 (by decide) ?_
                refine zr_top (y := bI true) (by decide) ?_
                refine lv_istore (lv' := [(5, .int (bI (true))), (7, .int ((A9 (25 * i + x)) &&& (upM ((t : Int))))), (0, .ref (a 0)), (1, .int (zI ((i : Int)))), (2, .int (zI ((j : Int)))), (3, .int (zI ((t : Int)))), (4, .int (bI (lo))), (6, .int (zI (z9)))]) hx hb dX10_hasWithin_72 hl (by decide) rfl (fun ls hl => ?_)
                refine zr_iinc (k := 7) (lv' := [(6, .int (zI (z9 + 1))), (5, .int (bI (true))), (7, .int ((A9 (25 * i + x)) &&& (upM ((t : Int))))), (0, .ref (a 0)), (1, .int (zI ((i : Int)))), (2, .int (zI ((j : Int)))), (3, .int (zI ((t : Int)))), (4, .int (bI (lo)))]) hx hb dX10_hasWithin_74 hl rfl (by decide) rfl (fun ls hl => ?_)
                refine lv_goto (tgt := 6) hx hb dX10_hasWithin_77 (by decide) ?_
                exact ih_6 (x + 1) (true) (z9 + 1) (by omega) (by omega) (by first | exact anyN_k1 hb9 (by assumption) | exact anyN_k2 (hwP_t hk.1 (by first | exact hwR_1 (by omega) | exact hwR_2 (by assumption) | exact hwR_3 (by omega) (by assumption)) (by assumption)) | exact anyN_k3 hb9 (by assumption) (hwP_f (by first | exact hwR_1 (by omega) | exact hwR_2 (by assumption) | exact hwR_3 (by omega) (by assumption)) (by assumption))) (by omega) _ (lv_sub hl [3, 4, 5, 6, 7, 1, 0] rfl)
          · refine lv_iload hx hb dX10_hasWithin_42 (lv_at hl 0 rfl) ?_
            refine zr_const hx hb dX10_hasWithin_44 ?_
            refine lv_iload_n hx hb dX10_hasWithin_45 rfl (lv_at hl 4 rfl) ?_
            refine zr_shl1 hx hb (by omega) dX10_hasWithin_46 ?_
            refine zr_const hx hb dX10_hasWithin_47 ?_
            refine lv_ixor hx hb dX10_hasWithin_48 ?_
            refine lv_iand hx hb dX10_hasWithin_49 ?_
            refine lv_goto (tgt := 55) hx hb dX10_hasWithin_50 (by decide) ?_
            refine lv_istore (lv' := [(7, .int (((A9 (25 * i + x)) &&& (upM ((t : Int)))) &&& ((pw ((t : Int)).toNat) ^^^ (zI (-1))))), (0, .ref (a 0)), (1, .int (zI ((i : Int)))), (2, .int (zI ((j : Int)))), (3, .int (zI ((t : Int)))), (4, .int (bI (lo))), (5, .int (bI (b9))), (6, .int (zI (z9)))]) hx hb dX10_hasWithin_55 hl (by decide) rfl (fun ls hl => ?_)
            refine lv_iload hx hb dX10_hasWithin_57 (lv_at hl 6 rfl) ?_
            refine zr_ifb_ne (tgt := 67) hx hb dX10_hasWithin_59 (by decide) (fun c9 => ?_) (fun c9 => ?_)
            · refine zr_const hx hb dX10_hasWithin_67 ?_
              refine lv_goto (tgt := 72) hx hb dX10_hasWithin_68 (by decide) ?_
              refine zr_top (y := bI true) (by decide) ?_
              refine lv_istore (lv' := [(5, .int (bI (true))), (7, .int (((A9 (25 * i + x)) &&& (upM ((t : Int)))) &&& ((pw ((t : Int)).toNat) ^^^ (zI (-1))))), (0, .ref (a 0)), (1, .int (zI ((i : Int)))), (2, .int (zI ((j : Int)))), (3, .int (zI ((t : Int)))), (4, .int (bI (lo))), (6, .int (zI (z9)))]) hx hb dX10_hasWithin_72 hl (by decide) rfl (fun ls hl => ?_)
              refine zr_iinc (k := 7) (lv' := [(6, .int (zI (z9 + 1))), (5, .int (bI (true))), (7, .int (((A9 (25 * i + x)) &&& (upM ((t : Int)))) &&& ((pw ((t : Int)).toNat) ^^^ (zI (-1))))), (0, .ref (a 0)), (1, .int (zI ((i : Int)))), (2, .int (zI ((j : Int)))), (3, .int (zI ((t : Int)))), (4, .int (bI (lo)))]) hx hb dX10_hasWithin_74 hl rfl (by decide) rfl (fun ls hl => ?_)
              refine lv_goto (tgt := 6) hx hb dX10_hasWithin_77 (by decide) ?_
              exact ih_6 (x + 1) (true) (z9 + 1) (by omega) (by omega) (by first | exact anyN_k1 hb9 (by assumption) | exact anyN_k2 (hwP_t hk.1 (by first | exact hwR_1 (by omega) | exact hwR_2 (by assumption) | exact hwR_3 (by omega) (by assumption)) (by assumption)) | exact anyN_k3 hb9 (by assumption) (hwP_f (by first | exact hwR_1 (by omega) | exact hwR_2 (by assumption) | exact hwR_3 (by omega) (by assumption)) (by assumption))) (by omega) _ (lv_sub hl [3, 4, 5, 6, 7, 1, 0] rfl)
            · refine lv_iload hx hb dX10_hasWithin_62 (lv_at hl 0 rfl) ?_
              refine lv_if_eq (tgt := 71) hx hb dX10_hasWithin_64 (by decide) (fun c10 => ?_) (fun c10 => ?_)
              · refine zr_const hx hb dX10_hasWithin_71 ?_
                refine zr_top (y := bI false) (by decide) ?_
                refine lv_istore (lv' := [(5, .int (bI (false))), (7, .int (((A9 (25 * i + x)) &&& (upM ((t : Int)))) &&& ((pw ((t : Int)).toNat) ^^^ (zI (-1))))), (0, .ref (a 0)), (1, .int (zI ((i : Int)))), (2, .int (zI ((j : Int)))), (3, .int (zI ((t : Int)))), (4, .int (bI (lo))), (6, .int (zI (z9)))]) hx hb dX10_hasWithin_72 hl (by decide) rfl (fun ls hl => ?_)
                refine zr_iinc (k := 7) (lv' := [(6, .int (zI (z9 + 1))), (5, .int (bI (false))), (7, .int (((A9 (25 * i + x)) &&& (upM ((t : Int)))) &&& ((pw ((t : Int)).toNat) ^^^ (zI (-1))))), (0, .ref (a 0)), (1, .int (zI ((i : Int)))), (2, .int (zI ((j : Int)))), (3, .int (zI ((t : Int)))), (4, .int (bI (lo)))]) hx hb dX10_hasWithin_74 hl rfl (by decide) rfl (fun ls hl => ?_)
                refine lv_goto (tgt := 6) hx hb dX10_hasWithin_77 (by decide) ?_
                exact ih_6 (x + 1) (false) (z9 + 1) (by omega) (by omega) (by first | exact anyN_k1 hb9 (by assumption) | exact anyN_k2 (hwP_t hk.1 (by first | exact hwR_1 (by omega) | exact hwR_2 (by assumption) | exact hwR_3 (by omega) (by assumption)) (by assumption)) | exact anyN_k3 hb9 (by assumption) (hwP_f (by first | exact hwR_1 (by omega) | exact hwR_2 (by assumption) | exact hwR_3 (by omega) (by assumption)) (by assumption))) (by omega) _ (lv_sub hl [3, 4, 5, 6, 7, 1, 0] rfl)
              · refine zr_const hx hb dX10_hasWithin_67 ?_
                refine lv_goto (tgt := 72) hx hb dX10_hasWithin_68 (by decide) ?_
                refine zr_top (y := bI true) (by decide) ?_
                refine lv_istore (lv' := [(5, .int (bI (true))), (7, .int (((A9 (25 * i + x)) &&& (upM ((t : Int)))) &&& ((pw ((t : Int)).toNat) ^^^ (zI (-1))))), (0, .ref (a 0)), (1, .int (zI ((i : Int)))), (2, .int (zI ((j : Int)))), (3, .int (zI ((t : Int)))), (4, .int (bI (lo))), (6, .int (zI (z9)))]) hx hb dX10_hasWithin_72 hl (by decide) rfl (fun ls hl => ?_)
                refine zr_iinc (k := 7) (lv' := [(6, .int (zI (z9 + 1))), (5, .int (bI (true))), (7, .int (((A9 (25 * i + x)) &&& (upM ((t : Int)))) &&& ((pw ((t : Int)).toNat) ^^^ (zI (-1))))), (0, .ref (a 0)), (1, .int (zI ((i : Int)))), (2, .int (zI ((j : Int)))), (3, .int (zI ((t : Int)))), (4, .int (bI (lo)))]) hx hb dX10_hasWithin_74 hl rfl (by decide) rfl (fun ls hl => ?_)
                refine lv_goto (tgt := 6) hx hb dX10_hasWithin_77 (by decide) ?_
                exact ih_6 (x + 1) (true) (z9 + 1) (by omega) (by omega) (by first | exact anyN_k1 hb9 (by assumption) | exact anyN_k2 (hwP_t hk.1 (by first | exact hwR_1 (by omega) | exact hwR_2 (by assumption) | exact hwR_3 (by omega) (by assumption)) (by assumption)) | exact anyN_k3 hb9 (by assumption) (hwP_f (by first | exact hwR_1 (by omega) | exact hwR_2 (by assumption) | exact hwR_3 (by omega) (by assumption)) (by assumption))) (by omega) _ (lv_sub hl [3, 4, 5, 6, 7, 1, 0] rfl)
  exact cut_6 (((t : Int) - ((j : Int)) : Int).toNat + 1) (j) (false) ((j : Int)) (by omega) (by omega) (by exact (anyN_f (fun q hq => by rw [hwP, decide_eq_false (by omega)]; rfl)).symm) (by omega) _ (lv_sub hl [2, 3, 4, 5, 6, 1, 0] rfl)

set_option maxHeartbeats 4000000 in
set_option maxRecDepth 100000 in
theorem kX10_liesWithin (l : Launch) (D : va_G) (k : Nat → ClassId) (L : List Nat) (f : Nat → va_E) (a : Nat → Nat) (tw n cn : Int) (A1 A2 A3 A4 A5 A6 A7 A8 A9 A10 : Nat → Int32) (hM : mRep k L f a tw n cn A1 A2 A3 A4 A5 A6 A7 A8 A9 A10) (hMC : 0 ≤ cn ∧ cn ≤ 30) (hMT : 0 ≤ tw ∧ tw ≤ 3) (hMN : 0 ≤ n ∧ n ≤ 24) (i j t : Nat) (lo : Bool) (hi : i < 30) (hj : j < 25) (ht : t ≤ 24) : Met l yX10_liesWithin wsX10_liesWithin ({ frames := 1, cells := 0, slots := 0, locals := 20 } : Room) (va_Pc [.ref (a 0), .int (zI ((i : Int))), .int (zI ((j : Int))), .int (zI ((t : Int))), .int (bI (lo))] (rPre D (tyL k) (va_pl L f))) (vp_Si (fun r9 => r9 = bI (lwB A9 i j t lo))) 0 0 (fun _ => False) := by
  refine Met.ofW (cc := cX10_liesWithin) (maxL := 8) (ret := (some .boolean)) (by decide) rfl ?_
  intro p e s m args below meth c s₁ B hml hv
  obtain ⟨rfl, hP, hC⟩ := hv
  have hK := hC.1
  have hNW := hC.2.1
  have hx := B.exec
  have hb := B.bytes
  have hrt := B.returns
  have hts := atoms_spec (ws := wsX10_liesWithin) B.pre
  have hown : s.vm.findClass RX10 = some m.cls := findClass_of_methodNamed B.named
  have hlocks := B.notSynchronized
  have hi_X10 : ∀ w ∈ u_ws RX10 TX10 13, w ∈ wsX10_liesWithin := by decide +kernel
  have hw_0 := hts (.fieldLink RX10 35 "RegionryModel" "rows" "[I") (by decide +kernel)
  have hl := lv_entry ([.ref (a 0), .int (zI ((i : Int))), .int (zI ((j : Int))), .int (zI ((t : Int))), .int (bI (lo))]) (n := 8) (Nat.le_of_ble_eq_true rfl)
  rw [lg_entry_eq]
  generalize (lg_sl ([.ref (a 0), .int (zI ((i : Int))), .int (zI ((j : Int))), .int (zI ((t : Int))), .int (bI (lo))]) ++ List.replicate (8 - (lg_sl ([.ref (a 0), .int (zI ((i : Int))), .int (zI ((j : Int))), .int (zI ((t : Int))), .int (bI (lo))])).length) Slot.unset).toArray = ls at hl ⊢
  have hl : lv_has ls 8 [(0, .ref (a 0)), (1, .int (zI ((i : Int)))), (2, .int (zI ((j : Int)))), (3, .int (zI ((t : Int)))), (4, .int (bI (lo)))] := hl
  obtain ⟨Q, hQ⟩ : ∃ Q, Q = MQ below (vp_Si (fun r9 => r9 = bI (lwB A9 i j t lo))) ([.ref (a 0), .int (zI ((i : Int))), .int (zI ((j : Int))), .int (zI ((t : Int))), .int (bI (lo))] : List Value).toArray s 0 0 (fun _ => False) := ⟨_, rfl⟩
  rw [← hQ]
  refine zr_const hx hb dX10_liesWithin_0 ?_
  refine zr_top (y := bI false) (by decide) ?_
  refine lv_istore (lv' := [(5, .int (bI (false))), (0, .ref (a 0)), (1, .int (zI ((i : Int)))), (2, .int (zI ((j : Int)))), (3, .int (zI ((t : Int)))), (4, .int (bI (lo)))]) hx hb dX10_liesWithin_1 hl (by decide) rfl (fun ls hl => ?_)
  refine zr_const hx hb dX10_liesWithin_3 ?_
  refine lv_istore (lv' := [(6, .int (zI (0))), (5, .int (bI (false))), (0, .ref (a 0)), (1, .int (zI ((i : Int)))), (2, .int (zI ((j : Int)))), (3, .int (zI ((t : Int)))), (4, .int (bI (lo)))]) hx hb dX10_liesWithin_4 hl (by decide) rfl (fun ls hl => ?_)
  have cut_6 : ∀ (n9 : Nat) (x : Nat) (b9 : Bool) (z9 : Int), (0 ≤ x ∧ x ≤ j + 1) → (z9 = x) → (b9 = anyN (lwP A9 i j t lo) x) → (j : Int) + 1 - z9 < (n9 : Int) → ∀ (ls : Array Slot), lv_has ls 8 [(0, .ref (a 0)), (1, .int (zI ((i : Int)))), (2, .int (zI ((j : Int)))), (3, .int (zI ((t : Int)))), (4, .int (bI (lo))), (5, .int (bI (b9))), (6, .int (zI (z9)))] → W p l e (headSpec wsX10_liesWithin ({ frames := 1, cells := 0, slots := 0, locals := 20 } : Room)).room s m ([.ref (a 0), .int (zI ((i : Int))), .int (zI ((j : Int))), .int (zI ((t : Int))), .int (bI (lo))] : List Value).toArray below meth c s.heap [] 0 0 Q (F0 m 6 ls []) := by
    intro n9
    induction n9 with
    | zero =>
      intro x b9 z9 hk hz9 hb9 hfu
      exact absurd hfu (by omega)
    | succ n9 ih_6 =>
      intro x b9 z9 hk hz9 hb9 hfu ls hl
      refine lv_iload hx hb dX10_liesWithin_6 (lv_at hl 6 rfl) ?_
      refine lv_iload_n hx hb dX10_liesWithin_8 rfl (lv_at hl 2 rfl) ?_
      refine zr_icmp_gt (tgt := 80) hx hb dX10_liesWithin_9 (by decide) (by omega) (by omega) (fun c1 => ?_) (fun c1 => ?_)
      · refine lv_iload hx hb dX10_liesWithin_80 (lv_at hl 5 rfl) ?_
        rw [hQ]
        exact rc_zret hx hb hrt (by obtain rfl : x = j + 1 := (by omega); exact congrArg bI hb9) dX10_liesWithin_82 hlocks
      · refine lv_aload_n hx hb dX10_liesWithin_12 rfl (lv_at hl 0 rfl) ?_
        refine pl_get (ci := 9) (v := .ref (a 9)) (C := RX10) (T := TX10) (N := 13) hx hb hts hi_X10 hown hK hP (hM.2.2.2.2.2.2.2.2.2.2.2.1 0 (by decide)) hM.1 rfl 11 (by decide) hw_0 (fun _ h9 => h9) rfl dX10_liesWithin_13 ?_
        refine zr_bipush hx hb dX10_liesWithin_16 (by decide) ?_
        refine lv_iload_n hx hb dX10_liesWithin_18 rfl (lv_at hl 1 rfl) ?_
        refine zr_mul hx hb dX10_liesWithin_19 ?_
        refine lv_iload hx hb dX10_liesWithin_20 (lv_at hl 6 rfl) ?_
        refine zr_add hx hb dX10_liesWithin_22 ?_
        refine pl_iald hx hb hK hP (hM.2.2.2.2.2.2.2.2.2.2.2.1 9 (by decide)) 0 hM.2.2.2.2.2.2.2.2.2.1 rfl (25 * i + x) (by omega) (by omega) (by decide) dX10_liesWithin_23 ?_
        refine lv_iload_n hx hb dX10_liesWithin_24 rfl (lv_at hl 3 rfl) ?_
        refine vp_callSi (va_Run.run (va_runS (As := [.int (zI ((t : Int)))]) (rest := [.int (A9 (25 * i + x))]) ⟨hx, hb, hml, hown, hts⟩ (kX10_fromOn l D k L f ((t : Int)) (by omega)) (va_cwS 1 hts gX10_liesWithin_X10_fromOn rfl rfl rfl (by decide +kernel) ⟨Nat.le_of_ble_eq_true rfl, Nat.le_of_ble_eq_true rfl⟩) (rc_preS hC hP) rfl rfl hl.1 rfl (lv_room (Nat.le_of_ble_eq_true rfl)) dX10_liesWithin_25 ⟨Nat.zero_le _, Nat.zero_le _⟩)) (fun r2 hr2 => ?_)
        subst hr2
        refine lv_iand hx hb dX10_liesWithin_28 ?_
        refine lv_istore (lv' := [(7, .int ((A9 (25 * i + x)) &&& (onM ((t : Int))))), (0, .ref (a 0)), (1, .int (zI ((i : Int)))), (2, .int (zI ((j : Int)))), (3, .int (zI ((t : Int)))), (4, .int (bI (lo))), (5, .int (bI (b9))), (6, .int (zI (z9)))]) hx hb dX10_liesWithin_29 hl (by decide) rfl (fun ls hl => ?_)
        refine lv_iload hx hb dX10_liesWithin_31 (lv_at hl 7 rfl) ?_
        refine lv_iload_n hx hb dX10_liesWithin_33 rfl (lv_at hl 3 rfl) ?_
        refine zr_icmp_ne (tgt := 53) hx hb dX10_liesWithin_34 (by decide) (by omega) (by omega) (fun c3 => ?_) (fun c3 => ?_)
        · refine lv_iload hx hb dX10_liesWithin_53 (lv_at hl 0 rfl) ?_
          refine lv_istore (lv' := [(7, .int ((A9 (25 * i + x)) &&& (onM ((t : Int))))), (0, .ref (a 0)), (1, .int (zI ((i : Int)))), (2, .int (zI ((j : Int)))), (3, .int (zI ((t : Int)))), (4, .int (bI (lo))), (5, .int (bI (b9))), (6, .int (zI (z9)))]) hx hb dX10_liesWithin_55 hl (by decide) rfl (fun ls hl => ?_)
          refine lv_iload hx hb dX10_liesWithin_57 (lv_at hl 6 rfl) ?_
          refine zr_ifb_ne (tgt := 67) hx hb dX10_liesWithin_59 (by decide) (fun c4 => ?_) (fun c4 => ?_)
          · refine zr_const hx hb dX10_liesWithin_67 ?_
            refine lv_goto (tgt := 72) hx hb dX10_liesWithin_68 (by decide) ?_
            refine zr_top (y := bI true) (by decide) ?_
            refine lv_istore (lv' := [(5, .int (bI (true))), (7, .int ((A9 (25 * i + x)) &&& (onM ((t : Int))))), (0, .ref (a 0)), (1, .int (zI ((i : Int)))), (2, .int (zI ((j : Int)))), (3, .int (zI ((t : Int)))), (4, .int (bI (lo))), (6, .int (zI (z9)))]) hx hb dX10_liesWithin_72 hl (by decide) rfl (fun ls hl => ?_)
            refine zr_iinc (k := 7) (lv' := [(6, .int (zI (z9 + 1))), (5, .int (bI (true))), (7, .int ((A9 (25 * i + x)) &&& (onM ((t : Int))))), (0, .ref (a 0)), (1, .int (zI ((i : Int)))), (2, .int (zI ((j : Int)))), (3, .int (zI ((t : Int)))), (4, .int (bI (lo)))]) hx hb dX10_liesWithin_74 hl rfl (by decide) rfl (fun ls hl => ?_)
            refine lv_goto (tgt := 6) hx hb dX10_liesWithin_77 (by decide) ?_
            exact ih_6 (x + 1) (true) (z9 + 1) (by omega) (by omega) (by first | exact anyN_k1 hb9 (by assumption) | exact anyN_k2 (lwP_t (by first | exact hwR_1 (by omega) | exact hwR_2 (by assumption) | exact hwR_3 (by omega) (by assumption)) (by assumption)) | exact anyN_k3 hb9 (by assumption) (lwP_f (by first | exact hwR_1 (by omega) | exact hwR_2 (by assumption) | exact hwR_3 (by omega) (by assumption)) (by assumption))) (by omega) _ (lv_sub hl [3, 4, 5, 6, 7, 1, 0] rfl)
          · refine lv_iload hx hb dX10_liesWithin_62 (lv_at hl 0 rfl) ?_
            refine lv_if_eq (tgt := 71) hx hb dX10_liesWithin_64 (by decide) (fun c5 => ?_) (fun c5 => ?_)
            · refine zr_const hx hb dX10_liesWithin_71 ?_
              refine zr_top (y := bI false) (by decide) ?_
              refine lv_istore (lv' := [(5, .int (bI (false))), (7, .int ((A9 (25 * i + x)) &&& (onM ((t : Int))))), (0, .ref (a 0)), (1, .int (zI ((i : Int)))), (2, .int (zI ((j : Int)))), (3, .int (zI ((t : Int)))), (4, .int (bI (lo))), (6, .int (zI (z9)))]) hx hb dX10_liesWithin_72 hl (by decide) rfl (fun ls hl => ?_)
              refine zr_iinc (k := 7) (lv' := [(6, .int (zI (z9 + 1))), (5, .int (bI (false))), (7, .int ((A9 (25 * i + x)) &&& (onM ((t : Int))))), (0, .ref (a 0)), (1, .int (zI ((i : Int)))), (2, .int (zI ((j : Int)))), (3, .int (zI ((t : Int)))), (4, .int (bI (lo)))]) hx hb dX10_liesWithin_74 hl rfl (by decide) rfl (fun ls hl => ?_)
              refine lv_goto (tgt := 6) hx hb dX10_liesWithin_77 (by decide) ?_
              exact ih_6 (x + 1) (false) (z9 + 1) (by omega) (by omega) (by first | exact anyN_k1 hb9 (by assumption) | exact anyN_k2 (lwP_t (by first | exact hwR_1 (by omega) | exact hwR_2 (by assumption) | exact hwR_3 (by omega) (by assumption)) (by assumption)) | exact anyN_k3 hb9 (by assumption) (lwP_f (by first | exact hwR_1 (by omega) | exact hwR_2 (by assumption) | exact hwR_3 (by omega) (by assumption)) (by assumption))) (by omega) _ (lv_sub hl [3, 4, 5, 6, 7, 1, 0] rfl)
            · refine zr_const hx hb dX10_liesWithin_67 ?_
              refine lv_goto (tgt := 72) hx hb dX10_liesWithin_68 (by decide) ?_
              refine zr_top (y := bI true) (by decide) ?_
              refine lv_istore (lv' := [(5, .int (bI (true))), (7, .int ((A9 (25 * i + x)) &&& (onM ((t : Int))))), (0, .ref (a 0)), (1, .int (zI ((i : Int)))), (2, .int (zI ((j : Int)))), (3, .int (zI ((t : Int)))), (4, .int (bI (lo))), (6, .int (zI (z9)))]) hx hb dX10_liesWithin_72 hl (by decide) rfl (fun ls hl => ?_)
              refine zr_iinc (k := 7) (lv' := [(6, .int (zI (z9 + 1))), (5, .int (bI (true))), (7, .int ((A9 (25 * i + x)) &&& (onM ((t : Int))))), (0, .ref (a 0)), (1, .int (zI ((i : Int)))), (2, .int (zI ((j : Int)))), (3, .int (zI ((t : Int)))), (4, .int (bI (lo)))]) hx hb dX10_liesWithin_74 hl rfl (by decide) rfl (fun ls hl => ?_)
              refine lv_goto (tgt := 6) hx hb dX10_liesWithin_77 (by decide) ?_
              exact ih_6 (x + 1) (true) (z9 + 1) (by omega) (by omega) (by first | exact anyN_k1 hb9 (by assumption) | exact anyN_k2 (lwP_t (by first | exact hwR_1 (by omega) | exact hwR_2 (by assumption) | exact hwR_3 (by omega) (by assumption)) (by assumption)) | exact anyN_k3 hb9 (by assumption) (lwP_f (by first | exact hwR_1 (by omega) | exact hwR_2 (by assumption) | exact hwR_3 (by omega) (by assumption)) (by assumption))) (by omega) _ (lv_sub hl [3, 4, 5, 6, 7, 1, 0] rfl)
        · refine lv_iload hx hb dX10_liesWithin_37 (lv_at hl 5 rfl) ?_
          refine zr_ifb_eq (tgt := 53) hx hb dX10_liesWithin_39 (by decide) (fun c6 => ?_) (fun c6 => ?_)
          · refine lv_iload hx hb dX10_liesWithin_53 (lv_at hl 0 rfl) ?_
            refine lv_istore (lv' := [(7, .int ((A9 (25 * i + x)) &&& (onM ((t : Int))))), (0, .ref (a 0)), (1, .int (zI ((i : Int)))), (2, .int (zI ((j : Int)))), (3, .int (zI ((t : Int)))), (4, .int (bI (lo))), (5, .int (bI (b9))), (6, .int (zI (z9)))]) hx hb dX10_liesWithin_55 hl (by decide) rfl (fun ls hl => ?_)
            refine lv_iload hx hb dX10_liesWithin_57 (lv_at hl 6 rfl) ?_
            refine zr_ifb_ne (tgt := 67) hx hb dX10_liesWithin_59 (by decide) (fun c7 => ?_) (fun c7 => ?_)
            · refine zr_const hx hb dX10_liesWithin_67 ?_
              refine lv_goto (tgt := 72) hx hb dX10_liesWithin_68 (by decide) ?_
              refine zr_top (y := bI true) (by decide) ?_
              refine lv_istore (lv' := [(5, .int (bI (true))), (7, .int ((A9 (25 * i + x)) &&& (onM ((t : Int))))), (0, .ref (a 0)), (1, .int (zI ((i : Int)))), (2, .int (zI ((j : Int)))), (3, .int (zI ((t : Int)))), (4, .int (bI (lo))), (6, .int (zI (z9)))]) hx hb dX10_liesWithin_72 hl (by decide) rfl (fun ls hl => ?_)
              refine zr_iinc (k := 7) (lv' := [(6, .int (zI (z9 + 1))), (5, .int (bI (true))), (7, .int ((A9 (25 * i + x)) &&& (onM ((t : Int))))), (0, .ref (a 0)), (1, .int (zI ((i : Int)))), (2, .int (zI ((j : Int)))), (3, .int (zI ((t : Int)))), (4, .int (bI (lo)))]) hx hb dX10_liesWithin_74 hl rfl (by decide) rfl (fun ls hl => ?_)
              refine lv_goto (tgt := 6) hx hb dX10_liesWithin_77 (by decide) ?_
              exact ih_6 (x + 1) (true) (z9 + 1) (by omega) (by omega) (by first | exact anyN_k1 hb9 (by assumption) | exact anyN_k2 (lwP_t (by first | exact hwR_1 (by omega) | exact hwR_2 (by assumption) | exact hwR_3 (by omega) (by assumption)) (by assumption)) | exact anyN_k3 hb9 (by assumption) (lwP_f (by first | exact hwR_1 (by omega) | exact hwR_2 (by assumption) | exact hwR_3 (by omega) (by assumption)) (by assumption))) (by omega) _ (lv_sub hl [3, 4, 5, 6, 7, 1, 0] rfl)
            · refine lv_iload hx hb dX10_liesWithin_62 (lv_at hl 0 rfl) ?_
              refine lv_if_eq (tgt := 71) hx hb dX10_liesWithin_64 (by decide) (fun c8 => ?_) (fun c8 => ?_)
              · refine zr_const hx hb dX10_liesWithin_71 ?_
                refine zr_top (y := bI false) (by decide) ?_
                refine lv_istore (lv' := [(5, .int (bI (false))), (7, .int ((A9 (25 * i + x)) &&& (onM ((t : Int))))), (0, .ref (a 0)), (1, .int (zI ((i : Int)))), (2, .int (zI ((j : Int)))), (3, .int (zI ((t : Int)))), (4, .int (bI (lo))), (6, .int (zI (z9)))]) hx hb dX10_liesWithin_72 hl (by decide) rfl (fun ls hl => ?_)
                refine zr_iinc (k := 7) (lv' := [(6, .int (zI (z9 + 1))), (5, .int (bI (false))), (7, .int ((A9 (25 * i + x)) &&& (onM ((t : Int))))), (0, .ref (a 0)), (1, .int (zI ((i : Int)))), (2, .int (zI ((j : Int)))), (3, .int (zI ((t : Int)))), (4, .int (bI (lo)))]) hx hb dX10_liesWithin_74 hl rfl (by decide) rfl (fun ls hl => ?_)
                refine lv_goto (tgt := 6) hx hb dX10_liesWithin_77 (by decide) ?_
                exact ih_6 (x + 1) (false) (z9 + 1) (by omega) (by omega) (by first | exact anyN_k1 hb9 (by assumption) | exact anyN_k2 (lwP_t (by first | exact hwR_1 (by omega) | exact hwR_2 (by assumption) | exact hwR_3 (by omega) (by assumption)) (by assumption)) | exact anyN_k3 hb9 (by assumption) (lwP_f (by first | exact hwR_1 (by omega) | exact hwR_2 (by assumption) | exact hwR_3 (by omega) (by assumption)) (by assumption))) (by omega) _ (lv_sub hl [3, 4, 5, 6, 7, 1, 0] rfl)
              · refine zr_const hx hb dX10_liesWithin_67 ?_
                refine lv_goto (tgt := 72) hx hb dX10_liesWithin_68 (by decide) ?_
                refine zr_top (y := bI true) (by decide) ?_
                refine lv_istore (lv' := [(5, .int (bI (true))), (7, .int ((A9 (25 * i + x)) &&& (onM ((t : Int))))), (0, .ref (a 0)), (1, .int (zI ((i : Int)))), (2, .int (zI ((j : Int)))), (3, .int (zI ((t : Int)))), (4, .int (bI (lo))), (6, .int (zI (z9)))]) hx hb dX10_liesWithin_72 hl (by decide) rfl (fun ls hl => ?_)
                refine zr_iinc (k := 7) (lv' := [(6, .int (zI (z9 + 1))), (5, .int (bI (true))), (7, .int ((A9 (25 * i + x)) &&& (onM ((t : Int))))), (0, .ref (a 0)), (1, .int (zI ((i : Int)))), (2, .int (zI ((j : Int)))), (3, .int (zI ((t : Int)))), (4, .int (bI (lo)))]) hx hb dX10_liesWithin_74 hl rfl (by decide) rfl (fun ls hl => ?_)
                refine lv_goto (tgt := 6) hx hb dX10_liesWithin_77 (by decide) ?_
                exact ih_6 (x + 1) (true) (z9 + 1) (by omega) (by omega) (by first | exact anyN_k1 hb9 (by assumption) | exact anyN_k2 (lwP_t (by first | exact hwR_1 (by omega) | exact hwR_2 (by assumption) | exact hwR_3 (by omega) (by assumption)) (by assumption)) | exact anyN_k3 hb9 (by assumption) (lwP_f (by first | exact hwR_1 (by omega) | exact hwR_2 (by assumption) | exact hwR_3 (by omega) (by assumption)) (by assumption))) (by omega) _ (lv_sub hl [3, 4, 5, 6, 7, 1, 0] rfl)
          · refine lv_iload hx hb dX10_liesWithin_42 (lv_at hl 0 rfl) ?_
            refine zr_const hx hb dX10_liesWithin_44 ?_
            refine lv_iload_n hx hb dX10_liesWithin_45 rfl (lv_at hl 4 rfl) ?_
            refine zr_shl1 hx hb (by omega) dX10_liesWithin_46 ?_
            refine zr_const hx hb dX10_liesWithin_47 ?_
            refine lv_ixor hx hb dX10_liesWithin_48 ?_
            refine lv_iand hx hb dX10_liesWithin_49 ?_
            refine lv_goto (tgt := 55) hx hb dX10_liesWithin_50 (by decide) ?_
            refine lv_istore (lv' := [(7, .int (((A9 (25 * i + x)) &&& (onM ((t : Int)))) &&& ((pw ((t : Int)).toNat) ^^^ (zI (-1))))), (0, .ref (a 0)), (1, .int (zI ((i : Int)))), (2, .int (zI ((j : Int)))), (3, .int (zI ((t : Int)))), (4, .int (bI (lo))), (5, .int (bI (b9))), (6, .int (zI (z9)))]) hx hb dX10_liesWithin_55 hl (by decide) rfl (fun ls hl => ?_)
            refine lv_iload hx hb dX10_liesWithin_57 (lv_at hl 6 rfl) ?_
            refine zr_ifb_ne (tgt := 67) hx hb dX10_liesWithin_59 (by decide) (fun c9 => ?_) (fun c9 => ?_)
            · refine zr_const hx hb dX10_liesWithin_67 ?_
              refine lv_goto (tgt := 72) hx hb dX10_liesWithin_68 (by decide) ?_
              refine zr_top (y := bI true) (by decide) ?_
              refine lv_istore (lv' := [(5, .int (bI (true))), (7, .int (((A9 (25 * i + x)) &&& (onM ((t : Int)))) &&& ((pw ((t : Int)).toNat) ^^^ (zI (-1))))), (0, .ref (a 0)), (1, .int (zI ((i : Int)))), (2, .int (zI ((j : Int)))), (3, .int (zI ((t : Int)))), (4, .int (bI (lo))), (6, .int (zI (z9)))]) hx hb dX10_liesWithin_72 hl (by decide) rfl (fun ls hl => ?_)
              refine zr_iinc (k := 7) (lv' := [(6, .int (zI (z9 + 1))), (5, .int (bI (true))), (7, .int (((A9 (25 * i + x)) &&& (onM ((t : Int)))) &&& ((pw ((t : Int)).toNat) ^^^ (zI (-1))))), (0, .ref (a 0)), (1, .int (zI ((i : Int)))), (2, .int (zI ((j : Int)))), (3, .int (zI ((t : Int)))), (4, .int (bI (lo)))]) hx hb dX10_liesWithin_74 hl rfl (by decide) rfl (fun ls hl => ?_)
              refine lv_goto (tgt := 6) hx hb dX10_liesWithin_77 (by decide) ?_
              exact ih_6 (x + 1) (true) (z9 + 1) (by omega) (by omega) (by first | exact anyN_k1 hb9 (by assumption) | exact anyN_k2 (lwP_t (by first | exact hwR_1 (by omega) | exact hwR_2 (by assumption) | exact hwR_3 (by omega) (by assumption)) (by assumption)) | exact anyN_k3 hb9 (by assumption) (lwP_f (by first | exact hwR_1 (by omega) | exact hwR_2 (by assumption) | exact hwR_3 (by omega) (by assumption)) (by assumption))) (by omega) _ (lv_sub hl [3, 4, 5, 6, 7, 1, 0] rfl)
            · refine lv_iload hx hb dX10_liesWithin_62 (lv_at hl 0 rfl) ?_
              refine lv_if_eq (tgt := 71) hx hb dX10_liesWithin_64 (by decide) (fun c10 => ?_) (fun c10 => ?_)
              · refine zr_const hx hb dX10_liesWithin_71 ?_
                refine zr_top (y := bI false) (by decide) ?_
                refine lv_istore (lv' := [(5, .int (bI (false))), (7, .int (((A9 (25 * i + x)) &&& (onM ((t : Int)))) &&& ((pw ((t : Int)).toNat) ^^^ (zI (-1))))), (0, .ref (a 0)), (1, .int (zI ((i : Int)))), (2, .int (zI ((j : Int)))), (3, .int (zI ((t : Int)))), (4, .int (bI (lo))), (6, .int (zI (z9)))]) hx hb dX10_liesWithin_72 hl (by decide) rfl (fun ls hl => ?_)
                refine zr_iinc (k := 7) (lv' := [(6, .int (zI (z9 + 1))), (5, .int (bI (false))), (7, .int (((A9 (25 * i + x)) &&& (onM ((t : Int)))) &&& ((pw ((t : Int)).toNat) ^^^ (zI (-1))))), (0, .ref (a 0)), (1, .int (zI ((i : Int)))), (2, .int (zI ((j : Int)))), (3, .int (zI ((t : Int)))), (4, .int (bI (lo)))]) hx hb dX10_liesWithin_74 hl rfl (by decide) rfl (fun ls hl => ?_)
                refine lv_goto (tgt := 6) hx hb dX10_liesWithin_77 (by decide) ?_
                exact ih_6 (x + 1) (false) (z9 + 1) (by omega) (by omega) (by first | exact anyN_k1 hb9 (by assumption) | exact anyN_k2 (lwP_t (by first | exact hwR_1 (by omega) | exact hwR_2 (by assumption) | exact hwR_3 (by omega) (by assumption)) (by assumption)) | exact anyN_k3 hb9 (by assumption) (lwP_f (by first | exact hwR_1 (by omega) | exact hwR_2 (by assumption) | exact hwR_3 (by omega) (by assumption)) (by assumption))) (by omega) _ (lv_sub hl [3, 4, 5, 6, 7, 1, 0] rfl)
              · refine zr_const hx hb dX10_liesWithin_67 ?_
                refine lv_goto (tgt := 72) hx hb dX10_liesWithin_68 (by decide) ?_
                refine zr_top (y := bI true) (by decide) ?_
                refine lv_istore (lv' := [(5, .int (bI (true))), (7, .int (((A9 (25 * i + x)) &&& (onM ((t : Int)))) &&& ((pw ((t : Int)).toNat) ^^^ (zI (-1))))), (0, .ref (a 0)), (1, .int (zI ((i : Int)))), (2, .int (zI ((j : Int)))), (3, .int (zI ((t : Int)))), (4, .int (bI (lo))), (6, .int (zI (z9)))]) hx hb dX10_liesWithin_72 hl (by decide) rfl (fun ls hl => ?_)
                refine zr_iinc (k := 7) (lv' := [(6, .int (zI (z9 + 1))), (5, .int (bI (true))), (7, .int (((A9 (25 * i + x)) &&& (onM ((t : Int)))) &&& ((pw ((t : Int)).toNat) ^^^ (zI (-1))))), (0, .ref (a 0)), (1, .int (zI ((i : Int)))), (2, .int (zI ((j : Int)))), (3, .int (zI ((t : Int)))), (4, .int (bI (lo)))]) hx hb dX10_liesWithin_74 hl rfl (by decide) rfl (fun ls hl => ?_)
                refine lv_goto (tgt := 6) hx hb dX10_liesWithin_77 (by decide) ?_
                exact ih_6 (x + 1) (true) (z9 + 1) (by omega) (by omega) (by first | exact anyN_k1 hb9 (by assumption) | exact anyN_k2 (lwP_t (by first | exact hwR_1 (by omega) | exact hwR_2 (by assumption) | exact hwR_3 (by omega) (by assumption)) (by assumption)) | exact anyN_k3 hb9 (by assumption) (lwP_f (by first | exact hwR_1 (by omega) | exact hwR_2 (by assumption) | exact hwR_3 (by omega) (by assumption)) (by assumption))) (by omega) _ (lv_sub hl [3, 4, 5, 6, 7, 1, 0] rfl)
  exact cut_6 (((j : Int) + 1 - (0) : Int).toNat + 1) (0) (false) (0) (by omega) (by omega) (rfl) (by omega) _ (lv_sub hl [2, 3, 4, 5, 6, 1, 0] rfl)

set_option maxHeartbeats 4000000 in
set_option maxRecDepth 100000 in
theorem kX10_beginsFrom (l : Launch) (D : va_G) (k : Nat → ClassId) (L : List Nat) (f : Nat → va_E) (a : Nat → Nat) (tw n cn : Int) (A1 A2 A3 A4 A5 A6 A7 A8 A9 A10 : Nat → Int32) (hM : mRep k L f a tw n cn A1 A2 A3 A4 A5 A6 A7 A8 A9 A10) (hMC : 0 ≤ cn ∧ cn ≤ 30) (hMT : 0 ≤ tw ∧ tw ≤ 3) (hMN : 0 ≤ n ∧ n ≤ 24) (i q : Nat) (hi : i < 30) (hq : q ≤ 24) : Met l yX10_beginsFrom wsX10_beginsFrom ({ frames := 0, cells := 0, slots := 0, locals := 0 } : Room) (va_Pc [.ref (a 0), .int (zI ((i : Int))), .int (zI ((q : Int)))] (rPre D (tyL k) (va_pl L f))) (vp_Si (fun r9 => r9 = bI (bgB A9 i q))) 0 0 (fun _ => False) := by
  refine Met.ofW (cc := cX10_beginsFrom) (maxL := 5) (ret := (some .boolean)) (by decide) rfl ?_
  intro p e s m args below meth c s₁ B hml hv
  obtain ⟨rfl, hP, hC⟩ := hv
  have hK := hC.1
  have hNW := hC.2.1
  have hx := B.exec
  have hb := B.bytes
  have hrt := B.returns
  have hts := atoms_spec (ws := wsX10_beginsFrom) B.pre
  have hown : s.vm.findClass RX10 = some m.cls := findClass_of_methodNamed B.named
  have hlocks := B.notSynchronized
  have hi_X10 : ∀ w ∈ u_ws RX10 TX10 13, w ∈ wsX10_beginsFrom := by decide +kernel
  have hw_0 := hts (.fieldLink RX10 35 "RegionryModel" "rows" "[I") (by decide +kernel)
  have hl := lv_entry ([.ref (a 0), .int (zI ((i : Int))), .int (zI ((q : Int)))]) (n := 5) (Nat.le_of_ble_eq_true rfl)
  rw [lg_entry_eq]
  generalize (lg_sl ([.ref (a 0), .int (zI ((i : Int))), .int (zI ((q : Int)))]) ++ List.replicate (5 - (lg_sl ([.ref (a 0), .int (zI ((i : Int))), .int (zI ((q : Int)))])).length) Slot.unset).toArray = ls at hl ⊢
  have hl : lv_has ls 5 [(0, .ref (a 0)), (1, .int (zI ((i : Int)))), (2, .int (zI ((q : Int))))] := hl
  obtain ⟨Q, hQ⟩ : ∃ Q, Q = MQ below (vp_Si (fun r9 => r9 = bI (bgB A9 i q))) ([.ref (a 0), .int (zI ((i : Int))), .int (zI ((q : Int)))] : List Value).toArray s 0 0 (fun _ => False) := ⟨_, rfl⟩
  rw [← hQ]
  refine zr_const hx hb dX10_beginsFrom_0 ?_
  refine zr_top (y := bI false) (by decide) ?_
  refine lv_istore_n (lv' := [(3, .int (bI (false))), (0, .ref (a 0)), (1, .int (zI ((i : Int)))), (2, .int (zI ((q : Int))))]) hx hb dX10_beginsFrom_1 rfl hl (by decide) rfl (fun ls hl => ?_)
  refine lv_iload_n hx hb dX10_beginsFrom_2 rfl (lv_at hl 3 rfl) ?_
  refine lv_istore (lv' := [(4, .int (zI ((q : Int)))), (3, .int (bI (false))), (0, .ref (a 0)), (1, .int (zI ((i : Int)))), (2, .int (zI ((q : Int))))]) hx hb dX10_beginsFrom_3 hl (by decide) rfl (fun ls hl => ?_)
  have cut_5 : ∀ (n9 : Nat) (x : Nat) (b9 : Bool) (z9 : Int), (q ≤ x ∧ x ≤ 25) → (z9 = x) → (b9 = anyN (bgP A9 i q) x) → 25 - z9 < (n9 : Int) → ∀ (ls : Array Slot), lv_has ls 5 [(0, .ref (a 0)), (1, .int (zI ((i : Int)))), (2, .int (zI ((q : Int)))), (3, .int (bI (b9))), (4, .int (zI (z9)))] → W p l e (headSpec wsX10_beginsFrom ({ frames := 0, cells := 0, slots := 0, locals := 0 } : Room)).room s m ([.ref (a 0), .int (zI ((i : Int))), .int (zI ((q : Int)))] : List Value).toArray below meth c s.heap [] 0 0 Q (F0 m 5 ls []) := by
    intro n9
    induction n9 with
    | zero =>
      intro x b9 z9 hk hz9 hb9 hfu
      exact absurd hfu (by omega)
    | succ n9 ih_5 =>
      intro x b9 z9 hk hz9 hb9 hfu ls hl
      refine lv_iload hx hb dX10_beginsFrom_5 (lv_at hl 4 rfl) ?_
      refine zr_bipush hx hb dX10_beginsFrom_7 (by decide) ?_
      refine zr_icmp_ge (tgt := 43) hx hb dX10_beginsFrom_9 (by decide) (by omega) (by omega) (fun c1 => ?_) (fun c1 => ?_)
      · refine lv_iload_n hx hb dX10_beginsFrom_43 rfl (lv_at hl 3 rfl) ?_
        rw [hQ]
        exact rc_zret hx hb hrt (by obtain rfl : x = 25 := (by omega); exact congrArg bI hb9) dX10_beginsFrom_44 hlocks
      · refine lv_iload_n hx hb dX10_beginsFrom_12 rfl (lv_at hl 3 rfl) ?_
        refine zr_ifb_ne (tgt := 31) hx hb dX10_beginsFrom_13 (by decide) (fun c2 => ?_) (fun c2 => ?_)
        · refine zr_const hx hb dX10_beginsFrom_31 ?_
          refine lv_goto (tgt := 36) hx hb dX10_beginsFrom_32 (by decide) ?_
          refine zr_top (y := bI true) (by decide) ?_
          refine lv_istore_n (lv' := [(3, .int (bI (true))), (0, .ref (a 0)), (1, .int (zI ((i : Int)))), (2, .int (zI ((q : Int)))), (4, .int (zI (z9)))]) hx hb dX10_beginsFrom_36 rfl hl (by decide) rfl (fun ls hl => ?_)
          refine zr_iinc (k := 4) (lv' := [(4, .int (zI (z9 + 1))), (3, .int (bI (true))), (0, .ref (a 0)), (1, .int (zI ((i : Int)))), (2, .int (zI ((q : Int))))]) hx hb dX10_beginsFrom_37 hl rfl (by decide) rfl (fun ls hl => ?_)
          refine lv_goto (tgt := 5) hx hb dX10_beginsFrom_40 (by decide) ?_
          exact ih_5 (x + 1) (true) (z9 + 1) (by omega) (by omega) (by first | exact anyN_k1 hb9 (by assumption) | exact anyN_k2 (bgP_t hk.1 (by assumption)) | exact anyN_k3 hb9 (by assumption) (bgP_f (by assumption))) (by omega) _ (lv_sub hl [2, 3, 4, 1, 0] rfl)
        · refine lv_aload_n hx hb dX10_beginsFrom_16 rfl (lv_at hl 0 rfl) ?_
          refine pl_get (ci := 9) (v := .ref (a 9)) (C := RX10) (T := TX10) (N := 13) hx hb hts hi_X10 hown hK hP (hM.2.2.2.2.2.2.2.2.2.2.2.1 0 (by decide)) hM.1 rfl 11 (by decide) hw_0 (fun _ h9 => h9) rfl dX10_beginsFrom_17 ?_
          refine zr_bipush hx hb dX10_beginsFrom_20 (by decide) ?_
          refine lv_iload_n hx hb dX10_beginsFrom_22 rfl (lv_at hl 1 rfl) ?_
          refine zr_mul hx hb dX10_beginsFrom_23 ?_
          refine lv_iload hx hb dX10_beginsFrom_24 (lv_at hl 4 rfl) ?_
          refine zr_add hx hb dX10_beginsFrom_26 ?_
          refine pl_iald hx hb hK hP (hM.2.2.2.2.2.2.2.2.2.2.2.1 9 (by decide)) 0 hM.2.2.2.2.2.2.2.2.2.1 rfl (25 * i + x) (by omega) (by omega) (by decide) dX10_beginsFrom_27 ?_
          refine lv_if_eq (tgt := 35) hx hb dX10_beginsFrom_28 (by decide) (fun c3 => ?_) (fun c3 => ?_)
          · refine zr_const hx hb dX10_beginsFrom_35 ?_
            refine zr_top (y := bI false) (by decide) ?_
            refine lv_istore_n (lv' := [(3, .int (bI (false))), (0, .ref (a 0)), (1, .int (zI ((i : Int)))), (2, .int (zI ((q : Int)))), (4, .int (zI (z9)))]) hx hb dX10_beginsFrom_36 rfl hl (by decide) rfl (fun ls hl => ?_)
            refine zr_iinc (k := 4) (lv' := [(4, .int (zI (z9 + 1))), (3, .int (bI (false))), (0, .ref (a 0)), (1, .int (zI ((i : Int)))), (2, .int (zI ((q : Int))))]) hx hb dX10_beginsFrom_37 hl rfl (by decide) rfl (fun ls hl => ?_)
            refine lv_goto (tgt := 5) hx hb dX10_beginsFrom_40 (by decide) ?_
            exact ih_5 (x + 1) (false) (z9 + 1) (by omega) (by omega) (by first | exact anyN_k1 hb9 (by assumption) | exact anyN_k2 (bgP_t hk.1 (by assumption)) | exact anyN_k3 hb9 (by assumption) (bgP_f (by assumption))) (by omega) _ (lv_sub hl [2, 3, 4, 1, 0] rfl)
          · refine zr_const hx hb dX10_beginsFrom_31 ?_
            refine lv_goto (tgt := 36) hx hb dX10_beginsFrom_32 (by decide) ?_
            refine zr_top (y := bI true) (by decide) ?_
            refine lv_istore_n (lv' := [(3, .int (bI (true))), (0, .ref (a 0)), (1, .int (zI ((i : Int)))), (2, .int (zI ((q : Int)))), (4, .int (zI (z9)))]) hx hb dX10_beginsFrom_36 rfl hl (by decide) rfl (fun ls hl => ?_)
            refine zr_iinc (k := 4) (lv' := [(4, .int (zI (z9 + 1))), (3, .int (bI (true))), (0, .ref (a 0)), (1, .int (zI ((i : Int)))), (2, .int (zI ((q : Int))))]) hx hb dX10_beginsFrom_37 hl rfl (by decide) rfl (fun ls hl => ?_)
            refine lv_goto (tgt := 5) hx hb dX10_beginsFrom_40 (by decide) ?_
            exact ih_5 (x + 1) (true) (z9 + 1) (by omega) (by omega) (by first | exact anyN_k1 hb9 (by assumption) | exact anyN_k2 (bgP_t hk.1 (by assumption)) | exact anyN_k3 hb9 (by assumption) (bgP_f (by assumption))) (by omega) _ (lv_sub hl [2, 3, 4, 1, 0] rfl)
  exact cut_5 ((25 - ((q : Int)) : Int).toNat + 1) (q) (false) ((q : Int)) (by omega) (by omega) (by exact (anyN_f (fun y hy => by rw [bgP, decide_eq_false (by omega)]; rfl)).symm) (by omega) _ (lv_sub hl [2, 3, 4, 1, 0] rfl)

set_option maxHeartbeats 4000000 in
set_option maxRecDepth 100000 in
theorem kX10_endsUpTo (l : Launch) (D : va_G) (k : Nat → ClassId) (L : List Nat) (f : Nat → va_E) (a : Nat → Nat) (tw n cn : Int) (A1 A2 A3 A4 A5 A6 A7 A8 A9 A10 : Nat → Int32) (hM : mRep k L f a tw n cn A1 A2 A3 A4 A5 A6 A7 A8 A9 A10) (hMC : 0 ≤ cn ∧ cn ≤ 30) (hMT : 0 ≤ tw ∧ tw ≤ 3) (hMN : 0 ≤ n ∧ n ≤ 24) (i q : Nat) (hi : i < 30) (hq : q ≤ 24) : Met l yX10_endsUpTo wsX10_endsUpTo ({ frames := 1, cells := 0, slots := 0, locals := 20 } : Room) (va_Pc [.ref (a 0), .int (zI ((i : Int))), .int (zI ((q : Int)))] (rPre D (tyL k) (va_pl L f))) (vp_Si (fun r9 => r9 = bI (euB A9 i q))) 0 0 (fun _ => False) := by
  refine Met.ofW (cc := cX10_endsUpTo) (maxL := 5) (ret := (some .boolean)) (by decide) rfl ?_
  intro p e s m args below meth c s₁ B hml hv
  obtain ⟨rfl, hP, hC⟩ := hv
  have hK := hC.1
  have hNW := hC.2.1
  have hx := B.exec
  have hb := B.bytes
  have hrt := B.returns
  have hts := atoms_spec (ws := wsX10_endsUpTo) B.pre
  have hown : s.vm.findClass RX10 = some m.cls := findClass_of_methodNamed B.named
  have hlocks := B.notSynchronized
  have hi_X10 : ∀ w ∈ u_ws RX10 TX10 13, w ∈ wsX10_endsUpTo := by decide +kernel
  have hw_0 := hts (.fieldLink RX10 35 "RegionryModel" "rows" "[I") (by decide +kernel)
  have hl := lv_entry ([.ref (a 0), .int (zI ((i : Int))), .int (zI ((q : Int)))]) (n := 5) (Nat.le_of_ble_eq_true rfl)
  rw [lg_entry_eq]
  generalize (lg_sl ([.ref (a 0), .int (zI ((i : Int))), .int (zI ((q : Int)))]) ++ List.replicate (5 - (lg_sl ([.ref (a 0), .int (zI ((i : Int))), .int (zI ((q : Int)))])).length) Slot.unset).toArray = ls at hl ⊢
  have hl : lv_has ls 5 [(0, .ref (a 0)), (1, .int (zI ((i : Int)))), (2, .int (zI ((q : Int))))] := hl
  obtain ⟨Q, hQ⟩ : ∃ Q, Q = MQ below (vp_Si (fun r9 => r9 = bI (euB A9 i q))) ([.ref (a 0), .int (zI ((i : Int))), .int (zI ((q : Int)))] : List Value).toArray s 0 0 (fun _ => False) := ⟨_, rfl⟩
  rw [← hQ]
  refine zr_const hx hb dX10_endsUpTo_0 ?_
  refine zr_top (y := bI false) (by decide) ?_
  refine lv_istore_n (lv' := [(3, .int (bI (false))), (0, .ref (a 0)), (1, .int (zI ((i : Int)))), (2, .int (zI ((q : Int))))]) hx hb dX10_endsUpTo_1 rfl hl (by decide) rfl (fun ls hl => ?_)
  refine zr_const hx hb dX10_endsUpTo_2 ?_
  refine lv_istore (lv' := [(4, .int (zI (0))), (3, .int (bI (false))), (0, .ref (a 0)), (1, .int (zI ((i : Int)))), (2, .int (zI ((q : Int))))]) hx hb dX10_endsUpTo_3 hl (by decide) rfl (fun ls hl => ?_)
  have cut_5 : ∀ (n9 : Nat) (x : Nat) (b9 : Bool) (z9 : Int), (0 ≤ x ∧ x ≤ 25) → (z9 = x) → (b9 = anyN (euP A9 i q) x) → 25 - z9 < (n9 : Int) → ∀ (ls : Array Slot), lv_has ls 5 [(0, .ref (a 0)), (1, .int (zI ((i : Int)))), (2, .int (zI ((q : Int)))), (3, .int (bI (b9))), (4, .int (zI (z9)))] → W p l e (headSpec wsX10_endsUpTo ({ frames := 1, cells := 0, slots := 0, locals := 20 } : Room)).room s m ([.ref (a 0), .int (zI ((i : Int))), .int (zI ((q : Int)))] : List Value).toArray below meth c s.heap [] 0 0 Q (F0 m 5 ls []) := by
    intro n9
    induction n9 with
    | zero =>
      intro x b9 z9 hk hz9 hb9 hfu
      exact absurd hfu (by omega)
    | succ n9 ih_5 =>
      intro x b9 z9 hk hz9 hb9 hfu ls hl
      refine lv_iload hx hb dX10_endsUpTo_5 (lv_at hl 4 rfl) ?_
      refine zr_bipush hx hb dX10_endsUpTo_7 (by decide) ?_
      refine zr_icmp_ge (tgt := 48) hx hb dX10_endsUpTo_9 (by decide) (by omega) (by omega) (fun c1 => ?_) (fun c1 => ?_)
      · refine lv_iload_n hx hb dX10_endsUpTo_48 rfl (lv_at hl 3 rfl) ?_
        rw [hQ]
        exact rc_zret hx hb hrt (by obtain rfl : x = 25 := (by omega); exact congrArg bI hb9) dX10_endsUpTo_49 hlocks
      · refine lv_iload_n hx hb dX10_endsUpTo_12 rfl (lv_at hl 3 rfl) ?_
        refine zr_ifb_ne (tgt := 36) hx hb dX10_endsUpTo_13 (by decide) (fun c2 => ?_) (fun c2 => ?_)
        · refine zr_const hx hb dX10_endsUpTo_36 ?_
          refine lv_goto (tgt := 41) hx hb dX10_endsUpTo_37 (by decide) ?_
          refine zr_top (y := bI true) (by decide) ?_
          refine lv_istore_n (lv' := [(3, .int (bI (true))), (0, .ref (a 0)), (1, .int (zI ((i : Int)))), (2, .int (zI ((q : Int)))), (4, .int (zI (z9)))]) hx hb dX10_endsUpTo_41 rfl hl (by decide) rfl (fun ls hl => ?_)
          refine zr_iinc (k := 4) (lv' := [(4, .int (zI (z9 + 1))), (3, .int (bI (true))), (0, .ref (a 0)), (1, .int (zI ((i : Int)))), (2, .int (zI ((q : Int))))]) hx hb dX10_endsUpTo_42 hl rfl (by decide) rfl (fun ls hl => ?_)
          refine lv_goto (tgt := 5) hx hb dX10_endsUpTo_45 (by decide) ?_
          exact ih_5 (x + 1) (true) (z9 + 1) (by omega) (by omega) (by first | exact anyN_k1 hb9 (by assumption) | exact anyN_k2 (euP_t (by assumption)) | exact anyN_k3 hb9 (by assumption) (euP_f (by assumption))) (by omega) _ (lv_sub hl [2, 3, 4, 1, 0] rfl)
        · refine lv_aload_n hx hb dX10_endsUpTo_16 rfl (lv_at hl 0 rfl) ?_
          refine pl_get (ci := 9) (v := .ref (a 9)) (C := RX10) (T := TX10) (N := 13) hx hb hts hi_X10 hown hK hP (hM.2.2.2.2.2.2.2.2.2.2.2.1 0 (by decide)) hM.1 rfl 11 (by decide) hw_0 (fun _ h9 => h9) rfl dX10_endsUpTo_17 ?_
          refine zr_bipush hx hb dX10_endsUpTo_20 (by decide) ?_
          refine lv_iload_n hx hb dX10_endsUpTo_22 rfl (lv_at hl 1 rfl) ?_
          refine zr_mul hx hb dX10_endsUpTo_23 ?_
          refine lv_iload hx hb dX10_endsUpTo_24 (lv_at hl 4 rfl) ?_
          refine zr_add hx hb dX10_endsUpTo_26 ?_
          refine pl_iald hx hb hK hP (hM.2.2.2.2.2.2.2.2.2.2.2.1 9 (by decide)) 0 hM.2.2.2.2.2.2.2.2.2.1 rfl (25 * i + x) (by omega) (by omega) (by decide) dX10_endsUpTo_27 ?_
          refine lv_iload_n hx hb dX10_endsUpTo_28 rfl (lv_at hl 2 rfl) ?_
          refine vp_callSi (va_Run.run (va_runS (As := [.int (zI ((q : Int)))]) (rest := [.int (A9 (25 * i + x))]) ⟨hx, hb, hml, hown, hts⟩ (kX10_upTo l D k L f ((q : Int)) (by omega)) (va_cwS 1 hts gX10_endsUpTo_X10_upTo rfl rfl rfl (by decide +kernel) ⟨Nat.le_of_ble_eq_true rfl, Nat.le_of_ble_eq_true rfl⟩) (rc_preS hC hP) rfl rfl hl.1 rfl (lv_room (Nat.le_of_ble_eq_true rfl)) dX10_endsUpTo_29 ⟨Nat.zero_le _, Nat.zero_le _⟩)) (fun r3 hr3 => ?_)
          subst hr3
          refine lv_iand hx hb dX10_endsUpTo_32 ?_
          refine lv_if_eq (tgt := 40) hx hb dX10_endsUpTo_33 (by decide) (fun c4 => ?_) (fun c4 => ?_)
          · refine zr_const hx hb dX10_endsUpTo_40 ?_
            refine zr_top (y := bI false) (by decide) ?_
            refine lv_istore_n (lv' := [(3, .int (bI (false))), (0, .ref (a 0)), (1, .int (zI ((i : Int)))), (2, .int (zI ((q : Int)))), (4, .int (zI (z9)))]) hx hb dX10_endsUpTo_41 rfl hl (by decide) rfl (fun ls hl => ?_)
            refine zr_iinc (k := 4) (lv' := [(4, .int (zI (z9 + 1))), (3, .int (bI (false))), (0, .ref (a 0)), (1, .int (zI ((i : Int)))), (2, .int (zI ((q : Int))))]) hx hb dX10_endsUpTo_42 hl rfl (by decide) rfl (fun ls hl => ?_)
            refine lv_goto (tgt := 5) hx hb dX10_endsUpTo_45 (by decide) ?_
            exact ih_5 (x + 1) (false) (z9 + 1) (by omega) (by omega) (by first | exact anyN_k1 hb9 (by assumption) | exact anyN_k2 (euP_t (by assumption)) | exact anyN_k3 hb9 (by assumption) (euP_f (by assumption))) (by omega) _ (lv_sub hl [2, 3, 4, 1, 0] rfl)
          · refine zr_const hx hb dX10_endsUpTo_36 ?_
            refine lv_goto (tgt := 41) hx hb dX10_endsUpTo_37 (by decide) ?_
            refine zr_top (y := bI true) (by decide) ?_
            refine lv_istore_n (lv' := [(3, .int (bI (true))), (0, .ref (a 0)), (1, .int (zI ((i : Int)))), (2, .int (zI ((q : Int)))), (4, .int (zI (z9)))]) hx hb dX10_endsUpTo_41 rfl hl (by decide) rfl (fun ls hl => ?_)
            refine zr_iinc (k := 4) (lv' := [(4, .int (zI (z9 + 1))), (3, .int (bI (true))), (0, .ref (a 0)), (1, .int (zI ((i : Int)))), (2, .int (zI ((q : Int))))]) hx hb dX10_endsUpTo_42 hl rfl (by decide) rfl (fun ls hl => ?_)
            refine lv_goto (tgt := 5) hx hb dX10_endsUpTo_45 (by decide) ?_
            exact ih_5 (x + 1) (true) (z9 + 1) (by omega) (by omega) (by first | exact anyN_k1 hb9 (by assumption) | exact anyN_k2 (euP_t (by assumption)) | exact anyN_k3 hb9 (by assumption) (euP_f (by assumption))) (by omega) _ (lv_sub hl [2, 3, 4, 1, 0] rfl)
  exact cut_5 ((25 - (0) : Int).toNat + 1) (0) (false) (0) (by omega) (by omega) (rfl) (by omega) _ (lv_sub hl [2, 3, 4, 1, 0] rfl)

theorem bI_n1 {b : Bool} (h : b = false) : zI 1 = bI (!b) := by rw [h]; decide
theorem bI_n0 {b : Bool} (h : b = true) : zI 0 = bI (!b) := by rw [h]; decide
theorem moB_d {R : Nat → Int32} {w i j t : Nat} (h : ¬ (1 ≤ w ∧ w ≤ 8) ∧ w ≠ 13) : moB R w i j t = !lwB R i j t true := by
  unfold moB
  rw [if_neg (by omega), if_neg (by omega), if_neg (by omega), if_neg (by omega), if_neg (by omega), if_neg (by omega), if_neg (by omega), if_neg (by omega), if_neg (by omega)]

set_option maxHeartbeats 4000000 in
set_option maxRecDepth 100000 in
theorem kX10_isOne (l : Launch) (D : va_G) (k : Nat → ClassId) (L : List Nat) (f : Nat → va_E) (a : Nat → Nat) (tw n cn : Int) (A1 A2 A3 A4 A5 A6 A7 A8 A9 A10 : Nat → Int32) (hM : mRep k L f a tw n cn A1 A2 A3 A4 A5 A6 A7 A8 A9 A10) (hMC : 0 ≤ cn ∧ cn ≤ 30) (hMT : 0 ≤ tw ∧ tw ≤ 3) (hMN : 0 ≤ n ∧ n ≤ 24) (w i j t : Nat) (hw : w ≤ 14) (hi : i < 30) (hj : j < t) (ht : t ≤ 24) : Met l yX10_isOne wsX10_isOne ({ frames := 2, cells := 0, slots := 0, locals := 47 } : Room) (va_Pc [.ref (a 0), .int (zI ((w : Int))), .int (zI ((i : Int))), .int (zI ((j : Int))), .int (zI ((t : Int)))] (rPre D (tyL k) (va_pl L f))) (vp_Si (fun r9 => r9 = bI (moB A9 w i j t))) 0 0 (fun _ => False) := by
  refine Met.ofW (cc := cX10_isOne) (maxL := 5) (ret := (some .boolean)) (by decide) rfl ?_
  intro p e s m args below meth c s₁ B hml hv
  obtain ⟨rfl, hP, hC⟩ := hv
  have hK := hC.1
  have hNW := hC.2.1
  have hx := B.exec
  have hb := B.bytes
  have hrt := B.returns
  have hts := atoms_spec (ws := wsX10_isOne) B.pre
  have hown : s.vm.findClass RX10 = some m.cls := findClass_of_methodNamed B.named
  have hlocks := B.notSynchronized
  have hl := lv_entry ([.ref (a 0), .int (zI ((w : Int))), .int (zI ((i : Int))), .int (zI ((j : Int))), .int (zI ((t : Int)))]) (n := 5) (Nat.le_of_ble_eq_true rfl)
  rw [lg_entry_eq]
  generalize (lg_sl ([.ref (a 0), .int (zI ((w : Int))), .int (zI ((i : Int))), .int (zI ((j : Int))), .int (zI ((t : Int)))]) ++ List.replicate (5 - (lg_sl ([.ref (a 0), .int (zI ((w : Int))), .int (zI ((i : Int))), .int (zI ((j : Int))), .int (zI ((t : Int)))])).length) Slot.unset).toArray = ls at hl ⊢
  have hl : lv_has ls 5 [(0, .ref (a 0)), (1, .int (zI ((w : Int)))), (2, .int (zI ((i : Int)))), (3, .int (zI ((j : Int)))), (4, .int (zI ((t : Int))))] := hl
  obtain ⟨Q, hQ⟩ : ∃ Q, Q = MQ below (vp_Si (fun r9 => r9 = bI (moB A9 w i j t))) ([.ref (a 0), .int (zI ((w : Int))), .int (zI ((i : Int))), .int (zI ((j : Int))), .int (zI ((t : Int)))] : List Value).toArray s 0 0 (fun _ => False) := ⟨_, rfl⟩
  rw [← hQ]
  refine lv_iload_n hx hb dX10_isOne_0 rfl (lv_at hl 1 rfl) ?_
  rcases (show ((w : Int)) = 1 ∨ ((w : Int)) = 2 ∨ ((w : Int)) = 3 ∨ ((w : Int)) = 4 ∨ ((w : Int)) = 5 ∨ ((w : Int)) = 6 ∨ ((w : Int)) = 7 ∨ ((w : Int)) = 8 ∨ ((w : Int)) = 9 ∨ ((w : Int)) = 10 ∨ ((w : Int)) = 11 ∨ ((w : Int)) = 12 ∨ ((w : Int)) = 13 ∨ ((w : Int) < 1 ∨ 13 < (w : Int)) by omega) with q1 | q1 | q1 | q1 | q1 | q1 | q1 | q1 | q1 | q1 | q1 | q1 | q1 | q1
  · refine lv_tableIn (off := 67) (tgt := 68) hx hb dX10_isOne_1 (by rw [zI_toInt (by omega), q1]; decide) (by rw [zI_toInt (by omega), q1]; decide) (by rw [zI_toInt (by omega), q1]; rfl) (by decide) ?_
    refine lv_aload_n hx hb dX10_isOne_68 rfl (lv_at hl 0 rfl) ?_
    refine lv_iload_n hx hb dX10_isOne_69 rfl (lv_at hl 2 rfl) ?_
    refine lv_iload_n hx hb dX10_isOne_70 rfl (lv_at hl 3 rfl) ?_
    refine lv_iload hx hb dX10_isOne_71 (lv_at hl 4 rfl) ?_
    refine vp_callSi (va_Run.run (va_runV (As := [.int (zI ((i : Int))), .int (zI ((j : Int))), .int (zI ((t : Int)))]) (rest := []) ⟨hx, hb, hml, hown, hts⟩ (kX10_holds l D k L f a tw n cn A1 A2 A3 A4 A5 A6 A7 A8 A9 A10 hM (by omega) (by omega) (by omega) i j t (by omega) (by omega) (by omega)) (cwV 3 hts gX10_isOne_X10_holds rfl rfl rfl (by decide +kernel) ⟨Nat.le_of_ble_eq_true rfl, Nat.le_of_ble_eq_true rfl⟩) (rc_preV hC hP (pl_recv hK hP (hM.2.2.2.2.2.2.2.2.2.2.2.1 0 (by decide)) hM.1 (ci := 9) (q := (RX10, TX10, 13)) rfl)) rfl rfl hl.1 rfl (lv_room (Nat.le_of_ble_eq_true rfl)) dX10_isOne_73 ⟨Nat.zero_le _, Nat.zero_le _⟩)) (fun r2 hr2 => ?_)
    subst hr2
    rw [hQ]
    exact rc_zret hx hb hrt (by obtain rfl : w = 1 := (by omega); rfl) dX10_isOne_76 hlocks
  · refine lv_tableIn (off := 76) (tgt := 77) hx hb dX10_isOne_1 (by rw [zI_toInt (by omega), q1]; decide) (by rw [zI_toInt (by omega), q1]; decide) (by rw [zI_toInt (by omega), q1]; rfl) (by decide) ?_
    refine lv_aload_n hx hb dX10_isOne_77 rfl (lv_at hl 0 rfl) ?_
    refine lv_iload_n hx hb dX10_isOne_78 rfl (lv_at hl 2 rfl) ?_
    refine lv_iload_n hx hb dX10_isOne_79 rfl (lv_at hl 3 rfl) ?_
    refine lv_iload hx hb dX10_isOne_80 (lv_at hl 4 rfl) ?_
    refine vp_callSi (va_Run.run (va_runV (As := [.int (zI ((i : Int))), .int (zI ((j : Int))), .int (zI ((t : Int)))]) (rest := []) ⟨hx, hb, hml, hown, hts⟩ (kX10_holds l D k L f a tw n cn A1 A2 A3 A4 A5 A6 A7 A8 A9 A10 hM (by omega) (by omega) (by omega) i j t (by omega) (by omega) (by omega)) (cwV 3 hts gX10_isOne_X10_holds rfl rfl rfl (by decide +kernel) ⟨Nat.le_of_ble_eq_true rfl, Nat.le_of_ble_eq_true rfl⟩) (rc_preV hC hP (pl_recv hK hP (hM.2.2.2.2.2.2.2.2.2.2.2.1 0 (by decide)) hM.1 (ci := 9) (q := (RX10, TX10, 13)) rfl)) rfl rfl hl.1 rfl (lv_room (Nat.le_of_ble_eq_true rfl)) dX10_isOne_82 ⟨Nat.zero_le _, Nat.zero_le _⟩)) (fun r3 hr3 => ?_)
    subst hr3
    refine zr_ifb_ne (tgt := 92) hx hb dX10_isOne_85 (by decide) (fun c4 => ?_) (fun c4 => ?_)
    · refine zr_const hx hb dX10_isOne_92 ?_
      rw [hQ]
      refine zr_top (y := bI (moB A9 w i j t)) (by obtain rfl : w = 2 := (by omega); first | exact bI_n1 (by assumption) | exact bI_n0 (by assumption)) ?_
      exact rc_zret hx hb hrt (rfl) dX10_isOne_93 hlocks
    · refine zr_const hx hb dX10_isOne_88 ?_
      refine lv_goto (tgt := 93) hx hb dX10_isOne_89 (by decide) ?_
      rw [hQ]
      refine zr_top (y := bI (moB A9 w i j t)) (by obtain rfl : w = 2 := (by omega); first | exact bI_n1 (by assumption) | exact bI_n0 (by assumption)) ?_
      exact rc_zret hx hb hrt (rfl) dX10_isOne_93 hlocks
  · refine lv_tableIn (off := 93) (tgt := 94) hx hb dX10_isOne_1 (by rw [zI_toInt (by omega), q1]; decide) (by rw [zI_toInt (by omega), q1]; decide) (by rw [zI_toInt (by omega), q1]; rfl) (by decide) ?_
    refine lv_aload_n hx hb dX10_isOne_94 rfl (lv_at hl 0 rfl) ?_
    refine lv_iload_n hx hb dX10_isOne_95 rfl (lv_at hl 2 rfl) ?_
    refine lv_iload_n hx hb dX10_isOne_96 rfl (lv_at hl 3 rfl) ?_
    refine lv_iload hx hb dX10_isOne_97 (lv_at hl 4 rfl) ?_
    refine zr_const hx hb dX10_isOne_99 ?_
    refine zr_top (y := bI false) (by decide) ?_
    refine vp_callSi (va_Run.run (va_runV (As := [.int (zI ((i : Int))), .int (zI ((j : Int))), .int (zI ((t : Int))), .int (bI (false))]) (rest := []) ⟨hx, hb, hml, hown, hts⟩ (kX10_hasWithin l D k L f a tw n cn A1 A2 A3 A4 A5 A6 A7 A8 A9 A10 hM (by omega) (by omega) (by omega) i j t false (by omega) (by omega) (by omega)) (cwV 4 hts gX10_isOne_X10_hasWithin rfl rfl rfl (by decide +kernel) ⟨Nat.le_of_ble_eq_true rfl, Nat.le_of_ble_eq_true rfl⟩) (rc_preV hC hP (pl_recv hK hP (hM.2.2.2.2.2.2.2.2.2.2.2.1 0 (by decide)) hM.1 (ci := 9) (q := (RX10, TX10, 13)) rfl)) rfl rfl hl.1 rfl (lv_room (Nat.le_of_ble_eq_true rfl)) dX10_isOne_100 ⟨Nat.zero_le _, Nat.zero_le _⟩)) (fun r5 hr5 => ?_)
    subst hr5
    rw [hQ]
    exact rc_zret hx hb hrt (by obtain rfl : w = 3 := (by omega); rfl) dX10_isOne_103 hlocks
  · refine lv_tableIn (off := 103) (tgt := 104) hx hb dX10_isOne_1 (by rw [zI_toInt (by omega), q1]; decide) (by rw [zI_toInt (by omega), q1]; decide) (by rw [zI_toInt (by omega), q1]; rfl) (by decide) ?_
    refine lv_aload_n hx hb dX10_isOne_104 rfl (lv_at hl 0 rfl) ?_
    refine lv_iload_n hx hb dX10_isOne_105 rfl (lv_at hl 2 rfl) ?_
    refine lv_iload_n hx hb dX10_isOne_106 rfl (lv_at hl 3 rfl) ?_
    refine lv_iload hx hb dX10_isOne_107 (lv_at hl 4 rfl) ?_
    refine zr_const hx hb dX10_isOne_109 ?_
    refine zr_top (y := bI false) (by decide) ?_
    refine vp_callSi (va_Run.run (va_runV (As := [.int (zI ((i : Int))), .int (zI ((j : Int))), .int (zI ((t : Int))), .int (bI (false))]) (rest := []) ⟨hx, hb, hml, hown, hts⟩ (kX10_hasWithin l D k L f a tw n cn A1 A2 A3 A4 A5 A6 A7 A8 A9 A10 hM (by omega) (by omega) (by omega) i j t false (by omega) (by omega) (by omega)) (cwV 4 hts gX10_isOne_X10_hasWithin rfl rfl rfl (by decide +kernel) ⟨Nat.le_of_ble_eq_true rfl, Nat.le_of_ble_eq_true rfl⟩) (rc_preV hC hP (pl_recv hK hP (hM.2.2.2.2.2.2.2.2.2.2.2.1 0 (by decide)) hM.1 (ci := 9) (q := (RX10, TX10, 13)) rfl)) rfl rfl hl.1 rfl (lv_room (Nat.le_of_ble_eq_true rfl)) dX10_isOne_110 ⟨Nat.zero_le _, Nat.zero_le _⟩)) (fun r6 hr6 => ?_)
    subst hr6
    refine zr_ifb_ne (tgt := 120) hx hb dX10_isOne_113 (by decide) (fun c7 => ?_) (fun c7 => ?_)
    · refine zr_const hx hb dX10_isOne_120 ?_
      rw [hQ]
      refine zr_top (y := bI (moB A9 w i j t)) (by obtain rfl : w = 4 := (by omega); first | exact bI_n1 (by assumption) | exact bI_n0 (by assumption)) ?_
      exact rc_zret hx hb hrt (rfl) dX10_isOne_121 hlocks
    · refine zr_const hx hb dX10_isOne_116 ?_
      refine lv_goto (tgt := 121) hx hb dX10_isOne_117 (by decide) ?_
      rw [hQ]
      refine zr_top (y := bI (moB A9 w i j t)) (by obtain rfl : w = 4 := (by omega); first | exact bI_n1 (by assumption) | exact bI_n0 (by assumption)) ?_
      exact rc_zret hx hb hrt (rfl) dX10_isOne_121 hlocks
  · refine lv_tableIn (off := 121) (tgt := 122) hx hb dX10_isOne_1 (by rw [zI_toInt (by omega), q1]; decide) (by rw [zI_toInt (by omega), q1]; decide) (by rw [zI_toInt (by omega), q1]; rfl) (by decide) ?_
    refine lv_aload_n hx hb dX10_isOne_122 rfl (lv_at hl 0 rfl) ?_
    refine lv_iload_n hx hb dX10_isOne_123 rfl (lv_at hl 2 rfl) ?_
    refine lv_iload_n hx hb dX10_isOne_124 rfl (lv_at hl 3 rfl) ?_
    refine lv_iload hx hb dX10_isOne_125 (lv_at hl 4 rfl) ?_
    refine zr_const hx hb dX10_isOne_127 ?_
    refine zr_top (y := bI false) (by decide) ?_
    refine vp_callSi (va_Run.run (va_runV (As := [.int (zI ((i : Int))), .int (zI ((j : Int))), .int (zI ((t : Int))), .int (bI (false))]) (rest := []) ⟨hx, hb, hml, hown, hts⟩ (kX10_liesWithin l D k L f a tw n cn A1 A2 A3 A4 A5 A6 A7 A8 A9 A10 hM (by omega) (by omega) (by omega) i j t false (by omega) (by omega) (by omega)) (cwV 4 hts gX10_isOne_X10_liesWithin rfl rfl rfl (by decide +kernel) ⟨Nat.le_of_ble_eq_true rfl, Nat.le_of_ble_eq_true rfl⟩) (rc_preV hC hP (pl_recv hK hP (hM.2.2.2.2.2.2.2.2.2.2.2.1 0 (by decide)) hM.1 (ci := 9) (q := (RX10, TX10, 13)) rfl)) rfl rfl hl.1 rfl (lv_room (Nat.le_of_ble_eq_true rfl)) dX10_isOne_128 ⟨Nat.zero_le _, Nat.zero_le _⟩)) (fun r8 hr8 => ?_)
    subst hr8
    rw [hQ]
    exact rc_zret hx hb hrt (by obtain rfl : w = 5 := (by omega); rfl) dX10_isOne_131 hlocks
  · refine lv_tableIn (off := 131) (tgt := 132) hx hb dX10_isOne_1 (by rw [zI_toInt (by omega), q1]; decide) (by rw [zI_toInt (by omega), q1]; decide) (by rw [zI_toInt (by omega), q1]; rfl) (by decide) ?_
    refine lv_aload_n hx hb dX10_isOne_132 rfl (lv_at hl 0 rfl) ?_
    refine lv_iload_n hx hb dX10_isOne_133 rfl (lv_at hl 2 rfl) ?_
    refine lv_iload_n hx hb dX10_isOne_134 rfl (lv_at hl 3 rfl) ?_
    refine lv_iload hx hb dX10_isOne_135 (lv_at hl 4 rfl) ?_
    refine zr_const hx hb dX10_isOne_137 ?_
    refine zr_top (y := bI false) (by decide) ?_
    refine vp_callSi (va_Run.run (va_runV (As := [.int (zI ((i : Int))), .int (zI ((j : Int))), .int (zI ((t : Int))), .int (bI (false))]) (rest := []) ⟨hx, hb, hml, hown, hts⟩ (kX10_liesWithin l D k L f a tw n cn A1 A2 A3 A4 A5 A6 A7 A8 A9 A10 hM (by omega) (by omega) (by omega) i j t false (by omega) (by omega) (by omega)) (cwV 4 hts gX10_isOne_X10_liesWithin rfl rfl rfl (by decide +kernel) ⟨Nat.le_of_ble_eq_true rfl, Nat.le_of_ble_eq_true rfl⟩) (rc_preV hC hP (pl_recv hK hP (hM.2.2.2.2.2.2.2.2.2.2.2.1 0 (by decide)) hM.1 (ci := 9) (q := (RX10, TX10, 13)) rfl)) rfl rfl hl.1 rfl (lv_room (Nat.le_of_ble_eq_true rfl)) dX10_isOne_138 ⟨Nat.zero_le _, Nat.zero_le _⟩)) (fun r9 hr9 => ?_)
    subst hr9
    refine zr_ifb_ne (tgt := 148) hx hb dX10_isOne_141 (by decide) (fun c10 => ?_) (fun c10 => ?_)
    · refine zr_const hx hb dX10_isOne_148 ?_
      rw [hQ]
      refine zr_top (y := bI (moB A9 w i j t)) (by obtain rfl : w = 6 := (by omega); first | exact bI_n1 (by assumption) | exact bI_n0 (by assumption)) ?_
      exact rc_zret hx hb hrt (rfl) dX10_isOne_149 hlocks
    · refine zr_const hx hb dX10_isOne_144 ?_
      refine lv_goto (tgt := 149) hx hb dX10_isOne_145 (by decide) ?_
      rw [hQ]
      refine zr_top (y := bI (moB A9 w i j t)) (by obtain rfl : w = 6 := (by omega); first | exact bI_n1 (by assumption) | exact bI_n0 (by assumption)) ?_
      exact rc_zret hx hb hrt (rfl) dX10_isOne_149 hlocks
  · refine lv_tableIn (off := 149) (tgt := 150) hx hb dX10_isOne_1 (by rw [zI_toInt (by omega), q1]; decide) (by rw [zI_toInt (by omega), q1]; decide) (by rw [zI_toInt (by omega), q1]; rfl) (by decide) ?_
    refine lv_aload_n hx hb dX10_isOne_150 rfl (lv_at hl 0 rfl) ?_
    refine lv_iload_n hx hb dX10_isOne_151 rfl (lv_at hl 2 rfl) ?_
    refine lv_iload hx hb dX10_isOne_152 (lv_at hl 4 rfl) ?_
    refine vp_callSi (va_Run.run (va_runV (As := [.int (zI ((i : Int))), .int (zI ((t : Int)))]) (rest := []) ⟨hx, hb, hml, hown, hts⟩ (kX10_beginsFrom l D k L f a tw n cn A1 A2 A3 A4 A5 A6 A7 A8 A9 A10 hM (by omega) (by omega) (by omega) i t (by omega) (by omega)) (cwV 2 hts gX10_isOne_X10_beginsFrom rfl rfl rfl (by decide +kernel) ⟨Nat.le_of_ble_eq_true rfl, Nat.le_of_ble_eq_true rfl⟩) (rc_preV hC hP (pl_recv hK hP (hM.2.2.2.2.2.2.2.2.2.2.2.1 0 (by decide)) hM.1 (ci := 9) (q := (RX10, TX10, 13)) rfl)) rfl rfl hl.1 rfl (lv_room (Nat.le_of_ble_eq_true rfl)) dX10_isOne_154 ⟨Nat.zero_le _, Nat.zero_le _⟩)) (fun r11 hr11 => ?_)
    subst hr11
    rw [hQ]
    exact rc_zret hx hb hrt (by obtain rfl : w = 7 := (by omega); rfl) dX10_isOne_157 hlocks
  · refine lv_tableIn (off := 157) (tgt := 158) hx hb dX10_isOne_1 (by rw [zI_toInt (by omega), q1]; decide) (by rw [zI_toInt (by omega), q1]; decide) (by rw [zI_toInt (by omega), q1]; rfl) (by decide) ?_
    refine lv_aload_n hx hb dX10_isOne_158 rfl (lv_at hl 0 rfl) ?_
    refine lv_iload_n hx hb dX10_isOne_159 rfl (lv_at hl 2 rfl) ?_
    refine lv_iload_n hx hb dX10_isOne_160 rfl (lv_at hl 3 rfl) ?_
    refine vp_callSi (va_Run.run (va_runV (As := [.int (zI ((i : Int))), .int (zI ((j : Int)))]) (rest := []) ⟨hx, hb, hml, hown, hts⟩ (kX10_endsUpTo l D k L f a tw n cn A1 A2 A3 A4 A5 A6 A7 A8 A9 A10 hM (by omega) (by omega) (by omega) i j (by omega) (by omega)) (cwV 2 hts gX10_isOne_X10_endsUpTo rfl rfl rfl (by decide +kernel) ⟨Nat.le_of_ble_eq_true rfl, Nat.le_of_ble_eq_true rfl⟩) (rc_preV hC hP (pl_recv hK hP (hM.2.2.2.2.2.2.2.2.2.2.2.1 0 (by decide)) hM.1 (ci := 9) (q := (RX10, TX10, 13)) rfl)) rfl rfl hl.1 rfl (lv_room (Nat.le_of_ble_eq_true rfl)) dX10_isOne_161 ⟨Nat.zero_le _, Nat.zero_le _⟩)) (fun r12 hr12 => ?_)
    subst hr12
    rw [hQ]
    exact rc_zret hx hb hrt (by obtain rfl : w = 8 := (by omega); rfl) dX10_isOne_164 hlocks
  · refine lv_tableIn (off := 182) (tgt := 183) hx hb dX10_isOne_1 (by rw [zI_toInt (by omega), q1]; decide) (by rw [zI_toInt (by omega), q1]; decide) (by rw [zI_toInt (by omega), q1]; rfl) (by decide) ?_
    refine lv_aload_n hx hb dX10_isOne_183 rfl (lv_at hl 0 rfl) ?_
    refine lv_iload_n hx hb dX10_isOne_184 rfl (lv_at hl 2 rfl) ?_
    refine lv_iload_n hx hb dX10_isOne_185 rfl (lv_at hl 3 rfl) ?_
    refine lv_iload hx hb dX10_isOne_186 (lv_at hl 4 rfl) ?_
    refine zr_const hx hb dX10_isOne_188 ?_
    refine zr_top (y := bI true) (by decide) ?_
    refine vp_callSi (va_Run.run (va_runV (As := [.int (zI ((i : Int))), .int (zI ((j : Int))), .int (zI ((t : Int))), .int (bI (true))]) (rest := []) ⟨hx, hb, hml, hown, hts⟩ (kX10_liesWithin l D k L f a tw n cn A1 A2 A3 A4 A5 A6 A7 A8 A9 A10 hM (by omega) (by omega) (by omega) i j t true (by omega) (by omega) (by omega)) (cwV 4 hts gX10_isOne_X10_liesWithin rfl rfl rfl (by decide +kernel) ⟨Nat.le_of_ble_eq_true rfl, Nat.le_of_ble_eq_true rfl⟩) (rc_preV hC hP (pl_recv hK hP (hM.2.2.2.2.2.2.2.2.2.2.2.1 0 (by decide)) hM.1 (ci := 9) (q := (RX10, TX10, 13)) rfl)) rfl rfl hl.1 rfl (lv_room (Nat.le_of_ble_eq_true rfl)) dX10_isOne_189 ⟨Nat.zero_le _, Nat.zero_le _⟩)) (fun r13 hr13 => ?_)
    subst hr13
    refine zr_ifb_ne (tgt := 199) hx hb dX10_isOne_192 (by decide) (fun c14 => ?_) (fun c14 => ?_)
    · refine zr_const hx hb dX10_isOne_199 ?_
      rw [hQ]
      refine zr_top (y := bI (moB A9 w i j t)) (by rw [moB_d (by omega)]; first | exact bI_n1 (by assumption) | exact bI_n0 (by assumption)) ?_
      exact rc_zret hx hb hrt (rfl) dX10_isOne_200 hlocks
    · refine zr_const hx hb dX10_isOne_195 ?_
      refine lv_goto (tgt := 200) hx hb dX10_isOne_196 (by decide) ?_
      rw [hQ]
      refine zr_top (y := bI (moB A9 w i j t)) (by rw [moB_d (by omega)]; first | exact bI_n1 (by assumption) | exact bI_n0 (by assumption)) ?_
      exact rc_zret hx hb hrt (rfl) dX10_isOne_200 hlocks
  · refine lv_tableIn (off := 182) (tgt := 183) hx hb dX10_isOne_1 (by rw [zI_toInt (by omega), q1]; decide) (by rw [zI_toInt (by omega), q1]; decide) (by rw [zI_toInt (by omega), q1]; rfl) (by decide) ?_
    refine lv_aload_n hx hb dX10_isOne_183 rfl (lv_at hl 0 rfl) ?_
    refine lv_iload_n hx hb dX10_isOne_184 rfl (lv_at hl 2 rfl) ?_
    refine lv_iload_n hx hb dX10_isOne_185 rfl (lv_at hl 3 rfl) ?_
    refine lv_iload hx hb dX10_isOne_186 (lv_at hl 4 rfl) ?_
    refine zr_const hx hb dX10_isOne_188 ?_
    refine zr_top (y := bI true) (by decide) ?_
    refine vp_callSi (va_Run.run (va_runV (As := [.int (zI ((i : Int))), .int (zI ((j : Int))), .int (zI ((t : Int))), .int (bI (true))]) (rest := []) ⟨hx, hb, hml, hown, hts⟩ (kX10_liesWithin l D k L f a tw n cn A1 A2 A3 A4 A5 A6 A7 A8 A9 A10 hM (by omega) (by omega) (by omega) i j t true (by omega) (by omega) (by omega)) (cwV 4 hts gX10_isOne_X10_liesWithin rfl rfl rfl (by decide +kernel) ⟨Nat.le_of_ble_eq_true rfl, Nat.le_of_ble_eq_true rfl⟩) (rc_preV hC hP (pl_recv hK hP (hM.2.2.2.2.2.2.2.2.2.2.2.1 0 (by decide)) hM.1 (ci := 9) (q := (RX10, TX10, 13)) rfl)) rfl rfl hl.1 rfl (lv_room (Nat.le_of_ble_eq_true rfl)) dX10_isOne_189 ⟨Nat.zero_le _, Nat.zero_le _⟩)) (fun r15 hr15 => ?_)
    subst hr15
    refine zr_ifb_ne (tgt := 199) hx hb dX10_isOne_192 (by decide) (fun c16 => ?_) (fun c16 => ?_)
    · refine zr_const hx hb dX10_isOne_199 ?_
      rw [hQ]
      refine zr_top (y := bI (moB A9 w i j t)) (by rw [moB_d (by omega)]; first | exact bI_n1 (by assumption) | exact bI_n0 (by assumption)) ?_
      exact rc_zret hx hb hrt (rfl) dX10_isOne_200 hlocks
    · refine zr_const hx hb dX10_isOne_195 ?_
      refine lv_goto (tgt := 200) hx hb dX10_isOne_196 (by decide) ?_
      rw [hQ]
      refine zr_top (y := bI (moB A9 w i j t)) (by rw [moB_d (by omega)]; first | exact bI_n1 (by assumption) | exact bI_n0 (by assumption)) ?_
      exact rc_zret hx hb hrt (rfl) dX10_isOne_200 hlocks
  · refine lv_tableIn (off := 182) (tgt := 183) hx hb dX10_isOne_1 (by rw [zI_toInt (by omega), q1]; decide) (by rw [zI_toInt (by omega), q1]; decide) (by rw [zI_toInt (by omega), q1]; rfl) (by decide) ?_
    refine lv_aload_n hx hb dX10_isOne_183 rfl (lv_at hl 0 rfl) ?_
    refine lv_iload_n hx hb dX10_isOne_184 rfl (lv_at hl 2 rfl) ?_
    refine lv_iload_n hx hb dX10_isOne_185 rfl (lv_at hl 3 rfl) ?_
    refine lv_iload hx hb dX10_isOne_186 (lv_at hl 4 rfl) ?_
    refine zr_const hx hb dX10_isOne_188 ?_
    refine zr_top (y := bI true) (by decide) ?_
    refine vp_callSi (va_Run.run (va_runV (As := [.int (zI ((i : Int))), .int (zI ((j : Int))), .int (zI ((t : Int))), .int (bI (true))]) (rest := []) ⟨hx, hb, hml, hown, hts⟩ (kX10_liesWithin l D k L f a tw n cn A1 A2 A3 A4 A5 A6 A7 A8 A9 A10 hM (by omega) (by omega) (by omega) i j t true (by omega) (by omega) (by omega)) (cwV 4 hts gX10_isOne_X10_liesWithin rfl rfl rfl (by decide +kernel) ⟨Nat.le_of_ble_eq_true rfl, Nat.le_of_ble_eq_true rfl⟩) (rc_preV hC hP (pl_recv hK hP (hM.2.2.2.2.2.2.2.2.2.2.2.1 0 (by decide)) hM.1 (ci := 9) (q := (RX10, TX10, 13)) rfl)) rfl rfl hl.1 rfl (lv_room (Nat.le_of_ble_eq_true rfl)) dX10_isOne_189 ⟨Nat.zero_le _, Nat.zero_le _⟩)) (fun r17 hr17 => ?_)
    subst hr17
    refine zr_ifb_ne (tgt := 199) hx hb dX10_isOne_192 (by decide) (fun c18 => ?_) (fun c18 => ?_)
    · refine zr_const hx hb dX10_isOne_199 ?_
      rw [hQ]
      refine zr_top (y := bI (moB A9 w i j t)) (by rw [moB_d (by omega)]; first | exact bI_n1 (by assumption) | exact bI_n0 (by assumption)) ?_
      exact rc_zret hx hb hrt (rfl) dX10_isOne_200 hlocks
    · refine zr_const hx hb dX10_isOne_195 ?_
      refine lv_goto (tgt := 200) hx hb dX10_isOne_196 (by decide) ?_
      rw [hQ]
      refine zr_top (y := bI (moB A9 w i j t)) (by rw [moB_d (by omega)]; first | exact bI_n1 (by assumption) | exact bI_n0 (by assumption)) ?_
      exact rc_zret hx hb hrt (rfl) dX10_isOne_200 hlocks
  · refine lv_tableIn (off := 182) (tgt := 183) hx hb dX10_isOne_1 (by rw [zI_toInt (by omega), q1]; decide) (by rw [zI_toInt (by omega), q1]; decide) (by rw [zI_toInt (by omega), q1]; rfl) (by decide) ?_
    refine lv_aload_n hx hb dX10_isOne_183 rfl (lv_at hl 0 rfl) ?_
    refine lv_iload_n hx hb dX10_isOne_184 rfl (lv_at hl 2 rfl) ?_
    refine lv_iload_n hx hb dX10_isOne_185 rfl (lv_at hl 3 rfl) ?_
    refine lv_iload hx hb dX10_isOne_186 (lv_at hl 4 rfl) ?_
    refine zr_const hx hb dX10_isOne_188 ?_
    refine zr_top (y := bI true) (by decide) ?_
    refine vp_callSi (va_Run.run (va_runV (As := [.int (zI ((i : Int))), .int (zI ((j : Int))), .int (zI ((t : Int))), .int (bI (true))]) (rest := []) ⟨hx, hb, hml, hown, hts⟩ (kX10_liesWithin l D k L f a tw n cn A1 A2 A3 A4 A5 A6 A7 A8 A9 A10 hM (by omega) (by omega) (by omega) i j t true (by omega) (by omega) (by omega)) (cwV 4 hts gX10_isOne_X10_liesWithin rfl rfl rfl (by decide +kernel) ⟨Nat.le_of_ble_eq_true rfl, Nat.le_of_ble_eq_true rfl⟩) (rc_preV hC hP (pl_recv hK hP (hM.2.2.2.2.2.2.2.2.2.2.2.1 0 (by decide)) hM.1 (ci := 9) (q := (RX10, TX10, 13)) rfl)) rfl rfl hl.1 rfl (lv_room (Nat.le_of_ble_eq_true rfl)) dX10_isOne_189 ⟨Nat.zero_le _, Nat.zero_le _⟩)) (fun r19 hr19 => ?_)
    subst hr19
    refine zr_ifb_ne (tgt := 199) hx hb dX10_isOne_192 (by decide) (fun c20 => ?_) (fun c20 => ?_)
    · refine zr_const hx hb dX10_isOne_199 ?_
      rw [hQ]
      refine zr_top (y := bI (moB A9 w i j t)) (by rw [moB_d (by omega)]; first | exact bI_n1 (by assumption) | exact bI_n0 (by assumption)) ?_
      exact rc_zret hx hb hrt (rfl) dX10_isOne_200 hlocks
    · refine zr_const hx hb dX10_isOne_195 ?_
      refine lv_goto (tgt := 200) hx hb dX10_isOne_196 (by decide) ?_
      rw [hQ]
      refine zr_top (y := bI (moB A9 w i j t)) (by rw [moB_d (by omega)]; first | exact bI_n1 (by assumption) | exact bI_n0 (by assumption)) ?_
      exact rc_zret hx hb hrt (rfl) dX10_isOne_200 hlocks
  · refine lv_tableIn (off := 164) (tgt := 165) hx hb dX10_isOne_1 (by rw [zI_toInt (by omega), q1]; decide) (by rw [zI_toInt (by omega), q1]; decide) (by rw [zI_toInt (by omega), q1]; rfl) (by decide) ?_
    refine lv_aload_n hx hb dX10_isOne_165 rfl (lv_at hl 0 rfl) ?_
    refine lv_iload_n hx hb dX10_isOne_166 rfl (lv_at hl 2 rfl) ?_
    refine lv_iload_n hx hb dX10_isOne_167 rfl (lv_at hl 3 rfl) ?_
    refine lv_iload hx hb dX10_isOne_168 (lv_at hl 4 rfl) ?_
    refine zr_const hx hb dX10_isOne_170 ?_
    refine zr_top (y := bI true) (by decide) ?_
    refine vp_callSi (va_Run.run (va_runV (As := [.int (zI ((i : Int))), .int (zI ((j : Int))), .int (zI ((t : Int))), .int (bI (true))]) (rest := []) ⟨hx, hb, hml, hown, hts⟩ (kX10_hasWithin l D k L f a tw n cn A1 A2 A3 A4 A5 A6 A7 A8 A9 A10 hM (by omega) (by omega) (by omega) i j t true (by omega) (by omega) (by omega)) (cwV 4 hts gX10_isOne_X10_hasWithin rfl rfl rfl (by decide +kernel) ⟨Nat.le_of_ble_eq_true rfl, Nat.le_of_ble_eq_true rfl⟩) (rc_preV hC hP (pl_recv hK hP (hM.2.2.2.2.2.2.2.2.2.2.2.1 0 (by decide)) hM.1 (ci := 9) (q := (RX10, TX10, 13)) rfl)) rfl rfl hl.1 rfl (lv_room (Nat.le_of_ble_eq_true rfl)) dX10_isOne_171 ⟨Nat.zero_le _, Nat.zero_le _⟩)) (fun r21 hr21 => ?_)
    subst hr21
    refine zr_ifb_ne (tgt := 181) hx hb dX10_isOne_174 (by decide) (fun c22 => ?_) (fun c22 => ?_)
    · refine zr_const hx hb dX10_isOne_181 ?_
      rw [hQ]
      refine zr_top (y := bI (moB A9 w i j t)) (by obtain rfl : w = 13 := (by omega); first | exact bI_n1 (by assumption) | exact bI_n0 (by assumption)) ?_
      exact rc_zret hx hb hrt (rfl) dX10_isOne_182 hlocks
    · refine zr_const hx hb dX10_isOne_177 ?_
      refine lv_goto (tgt := 182) hx hb dX10_isOne_178 (by decide) ?_
      rw [hQ]
      refine zr_top (y := bI (moB A9 w i j t)) (by obtain rfl : w = 13 := (by omega); first | exact bI_n1 (by assumption) | exact bI_n0 (by assumption)) ?_
      exact rc_zret hx hb hrt (rfl) dX10_isOne_182 hlocks
  · refine lv_tableOut (tgt := 183) hx hb dX10_isOne_1 (by rw [zI_toInt (by omega)]; exact q1) (by decide) ?_
    refine lv_aload_n hx hb dX10_isOne_183 rfl (lv_at hl 0 rfl) ?_
    refine lv_iload_n hx hb dX10_isOne_184 rfl (lv_at hl 2 rfl) ?_
    refine lv_iload_n hx hb dX10_isOne_185 rfl (lv_at hl 3 rfl) ?_
    refine lv_iload hx hb dX10_isOne_186 (lv_at hl 4 rfl) ?_
    refine zr_const hx hb dX10_isOne_188 ?_
    refine zr_top (y := bI true) (by decide) ?_
    refine vp_callSi (va_Run.run (va_runV (As := [.int (zI ((i : Int))), .int (zI ((j : Int))), .int (zI ((t : Int))), .int (bI (true))]) (rest := []) ⟨hx, hb, hml, hown, hts⟩ (kX10_liesWithin l D k L f a tw n cn A1 A2 A3 A4 A5 A6 A7 A8 A9 A10 hM (by omega) (by omega) (by omega) i j t true (by omega) (by omega) (by omega)) (cwV 4 hts gX10_isOne_X10_liesWithin rfl rfl rfl (by decide +kernel) ⟨Nat.le_of_ble_eq_true rfl, Nat.le_of_ble_eq_true rfl⟩) (rc_preV hC hP (pl_recv hK hP (hM.2.2.2.2.2.2.2.2.2.2.2.1 0 (by decide)) hM.1 (ci := 9) (q := (RX10, TX10, 13)) rfl)) rfl rfl hl.1 rfl (lv_room (Nat.le_of_ble_eq_true rfl)) dX10_isOne_189 ⟨Nat.zero_le _, Nat.zero_le _⟩)) (fun r23 hr23 => ?_)
    subst hr23
    refine zr_ifb_ne (tgt := 199) hx hb dX10_isOne_192 (by decide) (fun c24 => ?_) (fun c24 => ?_)
    · refine zr_const hx hb dX10_isOne_199 ?_
      rw [hQ]
      refine zr_top (y := bI (moB A9 w i j t)) (by rw [moB_d (by omega)]; first | exact bI_n1 (by assumption) | exact bI_n0 (by assumption)) ?_
      exact rc_zret hx hb hrt (rfl) dX10_isOne_200 hlocks
    · refine zr_const hx hb dX10_isOne_195 ?_
      refine lv_goto (tgt := 200) hx hb dX10_isOne_196 (by decide) ?_
      rw [hQ]
      refine zr_top (y := bI (moB A9 w i j t)) (by rw [moB_d (by omega)]; first | exact bI_n1 (by assumption) | exact bI_n0 (by assumption)) ?_
      exact rc_zret hx hb hrt (rfl) dX10_isOne_200 hlocks
