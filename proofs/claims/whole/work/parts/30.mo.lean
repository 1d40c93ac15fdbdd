/-! the reference: small things -/
def inB (v a b : Int) : Bool := decide (a ≤ v ∧ v ≤ b)
theorem inB_t {v a b : Int} (h : a ≤ v ∧ v ≤ b) : inB v a b = true := decide_eq_true h
theorem inB_f {v a b : Int} (h : ¬ (a ≤ v ∧ v ≤ b)) : inB v a b = false := decide_eq_false h

set_option maxHeartbeats 4000000 in
set_option maxRecDepth 100000 in
theorem kX10_in (l : Launch) (D : va_G) (k : Nat → ClassId) (L : List Nat) (f : Nat → va_E) (z : Int) (hz : -2147483648 ≤ z ∧ z < 2147483648) (y : Int) (hy : -2147483648 ≤ y ∧ y < 2147483648) (x : Int) (hx : -2147483648 ≤ x ∧ x < 2147483648) : Met l yX10_in wsX10_in ({ frames := 0, cells := 0, slots := 0, locals := 0 } : Room) (va_Pc [.int (zI (z)), .int (zI (y)), .int (zI (x))] (rPre D (tyL k) (va_pl L f))) (vp_Si (fun r9 => r9 = bI (inB z y x))) 0 0 (fun _ => False) := by
  refine Met.ofW (cc := cX10_in) (maxL := 3) (ret := (some .boolean)) (by decide) rfl ?_
  intro p e s m args below meth c s₁ B hml hv
  obtain ⟨rfl, hP, hC⟩ := hv
  have hK := hC.1
  have hNW := hC.2.1
  have hx := B.exec
  have hb := B.bytes
  have hrt := B.returns
  have hts := atoms_spec (ws := wsX10_in) B.pre
  have hown : s.vm.findClass RX10 = some m.cls := findClass_of_methodNamed B.named
  have hlocks := B.notSynchronized
  have hl := lv_entry ([.int (zI (z)), .int (zI (y)), .int (zI (x))]) (n := 3) (Nat.le_of_ble_eq_true rfl)
  rw [lg_entry_eq]
  generalize (lg_sl ([.int (zI (z)), .int (zI (y)), .int (zI (x))]) ++ List.replicate (3 - (lg_sl ([.int (zI (z)), .int (zI (y)), .int (zI (x))])).length) Slot.unset).toArray = ls at hl ⊢
  have hl : lv_has ls 3 [(0, .int (zI (z))), (1, .int (zI (y))), (2, .int (zI (x)))] := hl
  obtain ⟨Q, hQ⟩ : ∃ Q, Q = MQ below (vp_Si (fun r9 => r9 = bI (inB z y x))) ([.int (zI (z)), .int (zI (y)), .int (zI (x))] : List Value).toArray s 0 0 (fun _ => False) := ⟨_, rfl⟩
  rw [← hQ]
  refine lv_iload_n hx hb dX10_in_0 rfl (lv_at hl 0 rfl) ?_
  refine lv_iload_n hx hb dX10_in_1 rfl (lv_at hl 1 rfl) ?_
  refine zr_icmp_lt (tgt := 14) hx hb dX10_in_2 (by decide) (by omega) (by omega) (fun c1 => ?_) (fun c1 => ?_)
  · refine zr_const hx hb dX10_in_14 ?_
    rw [hQ]
    refine zr_top (y := bI (inB z y x)) (by first | exact bI_t (inB_t (by omega)) | exact bI_f (inB_f (by omega))) ?_
    exact rc_zret hx hb hrt (rfl) dX10_in_15 hlocks
  · refine lv_iload_n hx hb dX10_in_5 rfl (lv_at hl 0 rfl) ?_
    refine lv_iload_n hx hb dX10_in_6 rfl (lv_at hl 2 rfl) ?_
    refine zr_icmp_gt (tgt := 14) hx hb dX10_in_7 (by decide) (by omega) (by omega) (fun c2 => ?_) (fun c2 => ?_)
    · refine zr_const hx hb dX10_in_14 ?_
      rw [hQ]
      refine zr_top (y := bI (inB z y x)) (by first | exact bI_t (inB_t (by omega)) | exact bI_f (inB_f (by omega))) ?_
      exact rc_zret hx hb hrt (rfl) dX10_in_15 hlocks
    · refine zr_const hx hb dX10_in_10 ?_
      refine lv_goto (tgt := 15) hx hb dX10_in_11 (by decide) ?_
      rw [hQ]
      refine zr_top (y := bI (inB z y x)) (by first | exact bI_t (inB_t (by omega)) | exact bI_f (inB_f (by omega))) ?_
      exact rc_zret hx hb hrt (rfl) dX10_in_15 hlocks

set_option maxHeartbeats 4000000 in
set_option maxRecDepth 100000 in
theorem kX10_isKind (l : Launch) (D : va_G) (k : Nat → ClassId) (L : List Nat) (f : Nat → va_E) (z : Int) (hz : -2147483648 ≤ z ∧ z < 2147483648) : Met l yX10_isKind wsX10_isKind ({ frames := 1, cells := 0, slots := 0, locals := 22 } : Room) (va_Pc [.int (zI (z))] (rPre D (tyL k) (va_pl L f))) (vp_Si (fun r9 => r9 = bI (inB z 0 3))) 0 0 (fun _ => False) := by
  refine Met.ofW (cc := cX10_isKind) (maxL := 1) (ret := (some .boolean)) (by decide) rfl ?_
  intro p e s m args below meth c s₁ B hml hv
  obtain ⟨rfl, hP, hC⟩ := hv
  have hK := hC.1
  have hNW := hC.2.1
  have hx := B.exec
  have hb := B.bytes
  have hrt := B.returns
  have hts := atoms_spec (ws := wsX10_isKind) B.pre
  have hown : s.vm.findClass RX10 = some m.cls := findClass_of_methodNamed B.named
  have hlocks := B.notSynchronized
  have hl := lv_entry ([.int (zI (z))]) (n := 1) (Nat.le_of_ble_eq_true rfl)
  rw [lg_entry_eq]
  generalize (lg_sl ([.int (zI (z))]) ++ List.replicate (1 - (lg_sl ([.int (zI (z))])).length) Slot.unset).toArray = ls at hl ⊢
  have hl : lv_has ls 1 [(0, .int (zI (z)))] := hl
  obtain ⟨Q, hQ⟩ : ∃ Q, Q = MQ below (vp_Si (fun r9 => r9 = bI (inB z 0 3))) ([.int (zI (z))] : List Value).toArray s 0 0 (fun _ => False) := ⟨_, rfl⟩
  rw [← hQ]
  refine lv_iload_n hx hb dX10_isKind_0 rfl (lv_at hl 0 rfl) ?_
  refine zr_const hx hb dX10_isKind_1 ?_
  refine zr_const hx hb dX10_isKind_2 ?_
  refine vp_callSi (va_Run.run (va_runS (As := [.int (zI (z)), .int (zI (0)), .int (zI (3))]) (rest := []) ⟨hx, hb, hml, hown, hts⟩ (kX10_in l D k L f (z) (by omega) (0) (by omega) (3) (by omega)) (va_cwS 3 hts gX10_isKind_X10_in rfl rfl rfl (by decide +kernel) ⟨Nat.le_of_ble_eq_true rfl, Nat.le_of_ble_eq_true rfl⟩) (rc_preS hC hP) rfl rfl hl.1 rfl (lv_room (Nat.le_of_ble_eq_true rfl)) dX10_isKind_3 ⟨Nat.zero_le _, Nat.zero_le _⟩)) (fun r1 hr1 => ?_)
  subst hr1
  rw [hQ]
  exact rc_zret hx hb hrt (rfl) dX10_isKind_6 hlocks

set_option maxHeartbeats 4000000 in
set_option maxRecDepth 100000 in
theorem kX10_bits (l : Launch) (D : va_G) (k : Nat → ClassId) (L : List Nat) (f : Nat → va_E) (x : Int32) : Met l yX10_bits wsX10_bits ({ frames := 0, cells := 0, slots := 0, locals := 0 } : Room) (va_Pc [.int (x)] (rPre D (tyL k) (va_pl L f))) (vp_Si (fun r9 => r9 = zI ((fb_ct (bt x) 25 : Nat) : Int))) 0 0 (fun _ => False) := by
  refine Met.ofW (cc := cX10_bits) (maxL := 3) (ret := (some .int)) (by decide) rfl ?_
  intro p e s m args below meth c s₁ B hml hv
  obtain ⟨rfl, hP, hC⟩ := hv
  have hK := hC.1
  have hNW := hC.2.1
  have hx := B.exec
  have hb := B.bytes
  have hrt := B.returns
  have hts := atoms_spec (ws := wsX10_bits) B.pre
  have hown : s.vm.findClass RX10 = some m.cls := findClass_of_methodNamed B.named
  have hlocks := B.notSynchronized
  have hl := lv_entry ([.int (x)]) (n := 3) (Nat.le_of_ble_eq_true rfl)
  rw [lg_entry_eq]
  generalize (lg_sl ([.int (x)]) ++ List.replicate (3 - (lg_sl ([.int (x)])).length) Slot.unset).toArray = ls at hl ⊢
  have hl : lv_has ls 3 [(0, .int (x))] := hl
  obtain ⟨Q, hQ⟩ : ∃ Q, Q = MQ below (vp_Si (fun r9 => r9 = zI ((fb_ct (bt x) 25 : Nat) : Int))) ([.int (x)] : List Value).toArray s 0 0 (fun _ => False) := ⟨_, rfl⟩
  rw [← hQ]
  refine zr_const hx hb dX10_bits_0 ?_
  refine lv_istore_n (lv' := [(1, .int (zI (0))), (0, .int (x))]) hx hb dX10_bits_1 rfl hl (by decide) rfl (fun ls hl => ?_)
  refine zr_const hx hb dX10_bits_2 ?_
  refine lv_istore_n (lv' := [(2, .int (zI (0))), (1, .int (zI (0))), (0, .int (x))]) hx hb dX10_bits_3 rfl hl (by decide) rfl (fun ls hl => ?_)
  have cut_4 : ∀ (n9 : Nat) (j : Nat) (z2 : Int) (z1 : Int), (j ≤ 25) → (z2 = j) → (z1 = ((fb_ct (bt x) j : Nat) : Int)) → 25 - z2 < (n9 : Int) → ∀ (ls : Array Slot), lv_has ls 3 [(0, .int (x)), (1, .int (zI (z1))), (2, .int (zI (z2)))] → W p l e (headSpec wsX10_bits ({ frames := 0, cells := 0, slots := 0, locals := 0 } : Room)).room s m ([.int (x)] : List Value).toArray below meth c s.heap [] 0 0 Q (F0 m 4 ls []) := by
    intro n9
    induction n9 with
    | zero =>
      intro j z2 z1 hj hz2 hz1 hfu
      exact absurd hfu (by omega)
    | succ n9 ih_4 =>
      intro j z2 z1 hj hz2 hz1 hfu ls hl
      refine lv_iload_n hx hb dX10_bits_4 rfl (lv_at hl 2 rfl) ?_
      refine zr_bipush hx hb dX10_bits_5 (by decide) ?_
      refine zr_icmp_ge (tgt := 24) hx hb dX10_bits_7 (by decide) (by omega) (by omega) (fun c1 => ?_) (fun c1 => ?_)
      · refine lv_iload_n hx hb dX10_bits_24 rfl (lv_at hl 1 rfl) ?_
        rw [hQ]
        exact rc_iret hx hb hrt (by obtain rfl : j = 25 := (by omega); rw [hz1]) dX10_bits_25 hlocks
      · refine lv_iload_n hx hb dX10_bits_10 rfl (lv_at hl 1 rfl) ?_
        refine lv_iload_n hx hb dX10_bits_11 rfl (lv_at hl 0 rfl) ?_
        refine lv_iload_n hx hb dX10_bits_12 rfl (lv_at hl 2 rfl) ?_
        refine lv_ishr hx hb dX10_bits_13 ?_
        refine zr_const hx hb dX10_bits_14 ?_
        refine lv_iand hx hb dX10_bits_15 ?_
        refine zr_top (sh_bit (j := j) (by omega) (by omega)) ?_
        refine zr_add hx hb dX10_bits_16 ?_
        refine lv_istore_n (lv' := [(1, .int (zI (z1 + (if bt x j = true then 1 else 0)))), (0, .int (x)), (2, .int (zI (z2)))]) hx hb dX10_bits_17 rfl hl (by decide) rfl (fun ls hl => ?_)
        refine zr_iinc (k := 2) (lv' := [(2, .int (zI (z2 + 1))), (1, .int (zI (z1 + (if bt x j = true then 1 else 0)))), (0, .int (x))]) hx hb dX10_bits_18 hl rfl (by decide) rfl (fun ls hl => ?_)
        refine lv_goto (tgt := 4) hx hb dX10_bits_21 (by decide) ?_
        exact ih_4 (j + 1) (z2 + 1) (z1 + (if bt x j = true then 1 else 0)) (by omega) (by omega) (ct_sh hz2 hz1) (by omega) _ (lv_sub hl [2, 1, 0] rfl)
  exact cut_4 ((25 - (0) : Int).toNat + 1) (0) (0) (0) (by omega) (by omega) (rfl) (by omega) _ (lv_sub hl [2, 1, 0] rfl)
