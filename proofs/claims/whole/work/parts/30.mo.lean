/-! the reference: small things -/
def inB (v a b : Int) : Bool := decide (a ≤ v ∧ v ≤ b)
theorem inB_t {v a b : Int} (h : a ≤ v ∧ v ≤ b) : inB v a b = true := decide_eq_true h
theorem inB_f {v a b : Int} (h : ¬ (a ≤ v ∧ v ≤ b)) : inB v a b = false := decide_eq_false h

set_option maxHeartbeats 4000000 in
set_option maxRecDepth 100000 in
theorem kX10_in (l : Launch) (D : va_G) (k : Nat → ClassId) (L : List Nat) (f : Nat → va_E) (z : Int) (hz : -2147483648 ≤ z ∧ z < 2147483648) (y : Int) (hy : -2147483648 ≤ y ∧ y < 2147483648) (x : Int) (hx : -2147483648 ≤ x ∧ x < 2147483648) : Met l yX10_in wsX10_in ({ frames := 0, cells := 0, slots := 0, locals := 0 } : Room) (va_Pc [.int (zI (z)), .int (zI (y)), .int (zI (x))] (rPre D (tyL k) (va_pl L f))) (vp_Si (fun r9 => r9 = bI (inB z y x))) 0 0 (fun _ => False) := by
  refine Met.ofW (cc := cX10_in) (maxL := 3) (ret := (some .boolean)) (by decide) rfl ?_
  intro p e s m args below meth c s₁ B hml hv
  obtain ⟨rfl, hP, hC⟩ := hv
  have hK := hC.1
  have hNW := hC.2.1
  have hx := B.exec
  have hb := B.bytes
  have hrt := B.returns
  have hts := atoms_spec (ws := wsX10_in) B.pre
  have hown : s.vm.findClass RX10 = some m.cls := findClass_of_methodNamed B.named
  have hlocks := B.notSynchronized
  have hl := lv_entry ([.int (zI (z)), .int (zI (y)), .int (zI (x))]) (n := 3) (Nat.le_of_ble_eq_true rfl)
  rw [lg_entry_eq]
  generalize (lg_sl ([.int (zI (z)), .int (zI (y)), .int (zI (x))]) ++ List.replicate (3 - (lg_sl ([.int (zI (z)), .int (zI (y)), .int (zI (x))])).length) Slot.unset).toArray = ls at hl ⊢
  have hl : lv_has ls 3 [(0, .int (zI (z))), (1, .int (zI (y))), (2, .int (zI (x)))] := hl
  obtain ⟨Q, hQ⟩ : ∃ Q, Q = MQ below (vp_Si (fun r9 => r9 = bI (inB z y x))) ([.int (zI (z)), .int (zI (y)), .int (zI (x))] : List Value).toArray s 0 0 (fun _ => False) := ⟨_, rfl⟩
  rw [← hQ]
  refine lv_iload_n hx hb dX10_in_0 rfl (lv_at hl 0 rfl) ?_
  refine lv_iload_n hx hb dX10_in_1 rfl (lv_at hl 1 rfl) ?_
  refine zr_icmp_lt (tgt := 14) hx hb dX10_in_2 (by decide) (by omega) (by omega) (fun c1 => ?_) (fun c1 => ?_)
  · refine zr_const hx hb dX10_in_14 ?_
    rw [hQ]
    refine zr_top (y := bI (inB z y x)) (by first | exact bI_t (inB_t (by omega)) | exact bI_f (inB_f (by omega))) ?_
    exact rc_zret hx hb hrt (rfl) dX10_in_15 hlocks
  · refine lv_iload_n hx hb dX10_in_5 rfl (lv_at hl 0 rfl) ?_
    refine lv_iload_n hx hb dX10_in_6 rfl (lv_at hl 2 rfl) ?_
    refine zr_icmp_gt (tgt := 14) hx hb dX10_in_7 (by decide) (by omega) (by omega) (fun c2 => ?_) (fun c2 => ?_)
    · refine zr_const hx hb dX10_in_14 ?_
      rw [hQ]
      refine zr_top (y := bI (inB z y x)) (by first | exact bI_t (inB_t (by omega)) | exact bI_f (inB_f (by omega))) ?_
      exact rc_zret hx hb hrt (rfl) dX10_in_15 hlocks
    · refine zr_const hx hb dX10_in_10 ?_
      refine lv_goto (tgt := 15) hx hb dX10_in_11 (by decide) ?_
      rw [hQ]
      refine zr_top (y := bI (inB z y x)) (by first | exact bI_t (inB_t (by omega)) | exact bI_f (inB_f (by omega))) ?_
      exact rc_zret hx hb hrt (rfl) dX10_in_15 hlocks

set_option maxHeartbeats 4000000 in
set_option maxRecDepth 100000 in
theorem kX10_isKind (l : Launch) (D : va_G) (k : Nat → ClassId) (L : List Nat) (f : Nat → va_E) (z : Int) (hz : -2147483648 ≤ z ∧ z < 2147483648) : Met l yX10_isKind wsX10_isKind ({ frames := 1, cells := 0, slots := 0, locals := 22 } : Room) (va_Pc [.int (zI (z))] (rPre D (tyL k) (va_pl L f))) (vp_Si (fun r9 => r9 = bI (inB z 0 3))) 0 0 (fun _ => False) := by
  refine Met.ofW (cc := cX10_isKind) (maxL := 1) (ret := (some .boolean)) (by decide) rfl ?_
  intro p e s m args below meth c s₁ B hml hv
  obtain ⟨rfl, hP, hC⟩ := hv
  have hK := hC.1
  have hNW := hC.2.1
  have hx := B.exec
  have hb := B.bytes
  have hrt := B.returns
  have hts := atoms_spec (ws := wsX10_isKind) B.pre
  have hown : s.vm.findClass RX10 = some m.cls := findClass_of_methodNamed B.named
  have hlocks := B.notSynchronized
  have hl := lv_entry ([.int (zI (z))]) (n := 1) (Nat.le_of_ble_eq_true rfl)
  rw [lg_entry_eq]
  generalize (lg_sl ([.int (zI (z))]) ++ List.replicate (1 - (lg_sl ([.int (zI (z))])).length) Slot.unset).toArray = ls at hl ⊢
  have hl : lv_has ls 1 [(0, .int (zI (z)))] := hl
  obtain ⟨Q, hQ⟩ : ∃ Q, Q = MQ below (vp_Si (fun r9 => r9 = bI (inB z 0 3))) ([.int (zI (z))] : List Value).toArray s 0 0 (fun _ => False) := ⟨_, rfl⟩
  rw [← hQ]
  refine lv_iload_n hx hb dX10_isKind_0 rfl (lv_at hl 0 rfl) ?_
  refine zr_const hx hb dX10_isKind_1 ?_
  refine zr_const hx hb dX10_isKind_2 ?_
  refine vp_callSi (va_Run.run (va_runS (As := [.int (zI (z)), .int (zI (0)), .int (zI (3))]) (rest := []) ⟨hx, hb, hml, hown, hts⟩ (kX10_in l D k L f (z) (by omega) (0) (by omega) (3) (by omega)) (va_cwS 3 hts gX10_isKind_X10_in rfl rfl rfl (by decide +kernel) ⟨Nat.le_of_ble_eq_true rfl, Nat.le_of_ble_eq_true rfl⟩) (rc_preS hC hP) rfl rfl hl.1 rfl (lv_room (Nat.le_of_ble_eq_true rfl)) dX10_isKind_3 ⟨Nat.zero_le _, Nat.zero_le _⟩)) (fun r1 hr1 => ?_)
  subst hr1
  rw [hQ]
  exact rc_zret hx hb hrt (rfl) dX10_isKind_6 hlocks

set_option maxHeartbeats 4000000 in
set_option maxRecDepth 100000 in
theorem kX10_bits (l : Launch) (D : va_G) (k : Nat → ClassId) (L : List Nat) (f : Nat → va_E) (x : Int32) : Met l yX10_bits wsX10_bits ({ frames := 0, cells := 0, slots := 0, locals := 0 } : Room) (va_Pc [.int (x)] (rPre D (tyL k) (va_pl L f))) (vp_Si (fun r9 => r9 = zI ((fb_ct (bt x) 25 : Nat) : Int))) 0 0 (fun _ => False) := by
  refine Met.ofW (cc := cX10_bits) (maxL := 3) (ret := (some .int)) (by decide) rfl ?_
  intro p e s m args below meth c s₁ B hml hv
  obtain ⟨rfl, hP, hC⟩ := hv
  have hK := hC.1
  have hNW := hC.2.1
  have hx := B.exec
  have hb := B.bytes
  have hrt := B.returns
  have hts := atoms_spec (ws := wsX10_bits) B.pre
  have hown : s.vm.findClass RX10 = some m.cls := findClass_of_methodNamed B.named
  have hlocks := B.notSynchronized
  have hl := lv_entry ([.int (x)]) (n := 3) (Nat.le_of_ble_eq_true rfl)
  rw [lg_entry_eq]
  generalize (lg_sl ([.int (x)]) ++ List.replicate (3 - (lg_sl ([.int (x)])).length) Slot.unset).toArray = ls at hl ⊢
  have hl : lv_has ls 3 [(0, .int (x))] := hl
  obtain ⟨Q, hQ⟩ : ∃ Q, Q = MQ below (vp_Si (fun r9 => r9 = zI ((fb_ct (bt x) 25 : Nat) : Int))) ([.int (x)] : List Value).toArray s 0 0 (fun _ => False) := ⟨_, rfl⟩
  rw [← hQ]
  refine zr_const hx hb dX10_bits_0 ?_
  refine lv_istore_n (lv' := [(1, .int (zI (0))), (0, .int (x))]) hx hb dX10_bits_1 rfl hl (by decide) rfl (fun ls hl => ?_)
  refine zr_const hx hb dX10_bits_2 ?_
  refine lv_istore_n (lv' := [(2, .int (zI (0))), (1, .int (zI (0))), (0, .int (x))]) hx hb dX10_bits_3 rfl hl (by decide) rfl (fun ls hl => ?_)
  have cut_4 : ∀ (n9 : Nat) (j : Nat) (z2 : Int) (z1 : Int), (j ≤ 25) → (z2 = j) → (z1 = ((fb_ct (bt x) j : Nat) : Int)) → 25 - z2 < (n9 : Int) → ∀ (ls : Array Slot), lv_has ls 3 [(0, .int (x)), (1, .int (zI (z1))), (2, .int (zI (z2)))] → W p l e (headSpec wsX10_bits ({ frames := 0, cells := 0, slots := 0, locals := 0 } : Room)).room s m ([.int (x)] : List Value).toArray below meth c s.heap [] 0 0 Q (F0 m 4 ls []) := by
    intro n9
    induction n9 with
    | zero =>
      intro j z2 z1 hj hz2 hz1 hfu
      exact absurd hfu (by omega)
    | succ n9 ih_4 =>
      intro j z2 z1 hj hz2 hz1 hfu ls hl
      refine lv_iload_n hx hb dX10_bits_4 rfl (lv_at hl 2 rfl) ?_
      refine zr_bipush hx hb dX10_bits_5 (by decide) ?_
      refine zr_icmp_ge (tgt := 24) hx hb dX10_bits_7 (by decide) (by omega) (by omega) (fun c1 => ?_) (fun c1 => ?_)
      · refine lv_iload_n hx hb dX10_bits_24 rfl (lv_at hl 1 rfl) ?_
        rw [hQ]
        exact rc_iret hx hb hrt (by obtain rfl : j = 25 := (by omega); rw [hz1]) dX10_bits_25 hlocks
      · refine lv_iload_n hx hb dX10_bits_10 rfl (lv_at hl 1 rfl) ?_
        refine lv_iload_n hx hb dX10_bits_11 rfl (lv_at hl 0 rfl) ?_
        refine lv_iload_n hx hb dX10_bits_12 rfl (lv_at hl 2 rfl) ?_
        refine lv_ishr hx hb dX10_bits_13 ?_
        refine zr_const hx hb dX10_bits_14 ?_
        refine lv_iand hx hb dX10_bits_15 ?_
        refine zr_top (sh_bit (j := j) (by omega) (by omega)) ?_
        refine zr_add hx hb dX10_bits_16 ?_
        refine lv_istore_n (lv' := [(1, .int (zI (z1 + (if bt x j = true then 1 else 0)))), (0, .int (x)), (2, .int (zI (z2)))]) hx hb dX10_bits_17 rfl hl (by decide) rfl (fun ls hl => ?_)
        refine zr_iinc (k := 2) (lv' := [(2, .int (zI (z2 + 1))), (1, .int (zI (z1 + (if bt x j = true then 1 else 0)))), (0, .int (x))]) hx hb dX10_bits_18 hl rfl (by decide) rfl (fun ls hl => ?_)
        refine lv_goto (tgt := 4) hx hb dX10_bits_21 (by decide) ?_
        exact ih_4 (j + 1) (z2 + 1) (z1 + (if bt x j = true then 1 else 0)) (by omega) (by omega) (ct_sh hz2 hz1) (by omega) _ (lv_sub hl [2, 1, 0] rfl)
  exact cut_4 ((25 - (0) : Int).toNat + 1) (0) (0) (0) (by omega) (by omega) (rfl) (by omega) _ (lv_sub hl [2, 1, 0] rfl)

set_option maxHeartbeats 4000000 in
set_option maxRecDepth 100000 in
theorem kX10_init (l : Launch) (D : va_G) (k : Nat → ClassId) (L : List Nat) (f : Nat → va_E) (h : Nat) (hh : h ∈ L) (hfh : f h = .inr (9, [.int (0), .null, .int (0), .null, .int (0), .null, .null, .null, .null, .null, .null, .null, .null])) (n0 sz : Nat) : Met l yX10_init wsX10_init ({ frames := 1, cells := 10, slots := 1079, locals := 12 } : Room) (va_Pc [.ref h] (pPre D (tyL k) n0 (va_pl L f) sz)) (va_Qv (fun u => ∃ t1, t1 ∉ L ∧ ∃ t2, t2 ∉ (L ++ [t1]) ∧ ∃ t3, t3 ∉ (L ++ [t1] ++ [t2]) ∧ ∃ t4, t4 ∉ (L ++ [t1] ++ [t2] ++ [t3]) ∧ ∃ t5, t5 ∉ (L ++ [t1] ++ [t2] ++ [t3] ++ [t4]) ∧ ∃ t6, t6 ∉ (L ++ [t1] ++ [t2] ++ [t3] ++ [t4] ++ [t5]) ∧ ∃ t7, t7 ∉ (L ++ [t1] ++ [t2] ++ [t3] ++ [t4] ++ [t5] ++ [t6]) ∧ ∃ t8, t8 ∉ (L ++ [t1] ++ [t2] ++ [t3] ++ [t4] ++ [t5] ++ [t6] ++ [t7]) ∧ ∃ t9, t9 ∉ (L ++ [t1] ++ [t2] ++ [t3] ++ [t4] ++ [t5] ++ [t6] ++ [t7] ++ [t8]) ∧ ∃ t10, t10 ∉ (L ++ [t1] ++ [t2] ++ [t3] ++ [t4] ++ [t5] ++ [t6] ++ [t7] ++ [t8] ++ [t9]) ∧ ∃ F, u = va_pl (L ++ [t1] ++ [t2] ++ [t3] ++ [t4] ++ [t5] ++ [t6] ++ [t7] ++ [t8] ++ [t9] ++ [t10]) F ∧ F h = .inr (9, [.int (0), .ref t1, .int (0), .ref t2, .int (0), .ref t3, .ref t4, .ref t5, .ref t6, .ref t7, .ref t8, .ref t9, .ref t10]) ∧ F t1 = .inl (k 0, 24, .inl (fun _ => 0)) ∧ F t2 = .inl (k 0, 100, .inl (fun _ => 0)) ∧ F t3 = .inl (k 0, 30, .inl (fun _ => 0)) ∧ F t4 = .inl (k 0, 30, .inl (fun _ => 0)) ∧ F t5 = .inl (k 0, 30, .inl (fun _ => 0)) ∧ F t6 = .inl (k 0, 30, .inl (fun _ => 0)) ∧ F t7 = .inl (k 0, 30, .inl (fun _ => 0)) ∧ F t8 = .inl (k 1, 30, .inl (fun _ => 0)) ∧ F t9 = .inl (k 0, 750, .inl (fun _ => 0)) ∧ F t10 = .inl (k 0, 25, .inl (fun _ => 0))) (pB D (va_pl L f) sz) (va_A (va_pl L f) sz)) 10 1079 (va_A (va_pl L f) sz) := by
  refine Met.ofW (cc := cX10_init) (maxL := 1) (ret := none) (by decide) rfl ?_
  intro p e s m args below meth c s₁ B hml hv
  obtain ⟨rfl, hsz, hn9, hP, hC, hD0⟩ := hv
  have hK := hC.1
  have hNW := hC.2.1
  have hx := B.exec
  have hb := B.bytes
  have hrt := B.returns
  have hts := atoms_spec (ws := wsX10_init) B.pre
  have hown : s.vm.findClass RX10 = some m.cls := findClass_of_methodNamed B.named
  have hlocks := B.notSynchronized
  have hin9 : meth.name = "<init>" := (name_of_methodNamed B.named B.method).1
  subst hsz
  obtain ⟨A, hAd⟩ : ∃ A, A = va_A (va_pl L f) s.heap.size := ⟨_, rfl⟩
  have hD := hD0.self (sz := s.heap.size)
  rw [← hAd] at hD
  have hA : ∀ q : Nat, s.heap.size ≤ q → A q := fun q h => by rw [hAd]; exact Or.inr h
  have hAn : ∀ q : Nat, A q → n0 ≤ q := fun q h => by
    rw [hAd] at h
    rcases h with ⟨k9, e9, hk9⟩ | h
    · exact hD0.2 k9 _ hk9
    · exact Nat.le_trans hn9 h
  have hS : va_S A s.heap s.heap [] := va_S.rf
  have hi_X10 : ∀ w ∈ u_ws RX10 TX10 13, w ∈ wsX10_init := by decide +kernel
  have hw_0 := hts (.methodLink RX10 1 objectInit) (by decide +kernel)
  have hw_1 := hts (.instanceMethod objectInit) (by decide +kernel)
  have hw_2 := hts (.code objectInit ⟨#[0xb1]⟩ 1 none) (by decide +kernel)
  have hw_3 := hts (.arrayClass .int) (by decide +kernel)
  have hw_4 := hts (.fieldLink RX10 7 "RegionryModel" "text" "[I") (by decide +kernel)
  have hw_5 := hts (.fieldLink RX10 13 "RegionryModel" "marks" "[I") (by decide +kernel)
  have hw_6 := hts (.fieldLink RX10 16 "RegionryModel" "whats" "[I") (by decide +kernel)
  have hw_7 := hts (.fieldLink RX10 19 "RegionryModel" "ones" "[I") (by decide +kernel)
  have hw_8 := hts (.fieldLink RX10 22 "RegionryModel" "others" "[I") (by decide +kernel)
  have hw_9 := hts (.fieldLink RX10 25 "RegionryModel" "gaps" "[I") (by decide +kernel)
  have hw_10 := hts (.fieldLink RX10 28 "RegionryModel" "depths" "[I") (by decide +kernel)
  have hw_11 := hts (.arrayClass .boolean) (by decide +kernel)
  have hw_12 := hts (.fieldLink RX10 31 "RegionryModel" "isNeeded" "[Z") (by decide +kernel)
  have hw_13 := hts (.fieldLink RX10 35 "RegionryModel" "rows" "[I") (by decide +kernel)
  have hw_14 := hts (.fieldLink RX10 38 "RegionryModel" "moved" "[I") (by decide +kernel)
  have hl := lv_entry ([.ref h]) (n := 1) (Nat.le_of_ble_eq_true rfl)
  rw [lg_entry_eq]
  generalize (lg_sl ([.ref h]) ++ List.replicate (1 - (lg_sl ([.ref h])).length) Slot.unset).toArray = ls at hl ⊢
  have hl : lv_has ls 1 [(0, .ref h)] := hl
  obtain ⟨Q, hQ⟩ : ∃ Q, Q = MQ below (va_Qv (fun u => ∃ t1, t1 ∉ L ∧ ∃ t2, t2 ∉ (L ++ [t1]) ∧ ∃ t3, t3 ∉ (L ++ [t1] ++ [t2]) ∧ ∃ t4, t4 ∉ (L ++ [t1] ++ [t2] ++ [t3]) ∧ ∃ t5, t5 ∉ (L ++ [t1] ++ [t2] ++ [t3] ++ [t4]) ∧ ∃ t6, t6 ∉ (L ++ [t1] ++ [t2] ++ [t3] ++ [t4] ++ [t5]) ∧ ∃ t7, t7 ∉ (L ++ [t1] ++ [t2] ++ [t3] ++ [t4] ++ [t5] ++ [t6]) ∧ ∃ t8, t8 ∉ (L ++ [t1] ++ [t2] ++ [t3] ++ [t4] ++ [t5] ++ [t6] ++ [t7]) ∧ ∃ t9, t9 ∉ (L ++ [t1] ++ [t2] ++ [t3] ++ [t4] ++ [t5] ++ [t6] ++ [t7] ++ [t8]) ∧ ∃ t10, t10 ∉ (L ++ [t1] ++ [t2] ++ [t3] ++ [t4] ++ [t5] ++ [t6] ++ [t7] ++ [t8] ++ [t9]) ∧ ∃ F, u = va_pl (L ++ [t1] ++ [t2] ++ [t3] ++ [t4] ++ [t5] ++ [t6] ++ [t7] ++ [t8] ++ [t9] ++ [t10]) F ∧ F h = .inr (9, [.int (0), .ref t1, .int (0), .ref t2, .int (0), .ref t3, .ref t4, .ref t5, .ref t6, .ref t7, .ref t8, .ref t9, .ref t10]) ∧ F t1 = .inl (k 0, 24, .inl (fun _ => 0)) ∧ F t2 = .inl (k 0, 100, .inl (fun _ => 0)) ∧ F t3 = .inl (k 0, 30, .inl (fun _ => 0)) ∧ F t4 = .inl (k 0, 30, .inl (fun _ => 0)) ∧ F t5 = .inl (k 0, 30, .inl (fun _ => 0)) ∧ F t6 = .inl (k 0, 30, .inl (fun _ => 0)) ∧ F t7 = .inl (k 0, 30, .inl (fun _ => 0)) ∧ F t8 = .inl (k 1, 30, .inl (fun _ => 0)) ∧ F t9 = .inl (k 0, 750, .inl (fun _ => 0)) ∧ F t10 = .inl (k 0, 25, .inl (fun _ => 0))) (pB D (va_pl L f) s.heap.size) (va_A (va_pl L f) s.heap.size)) ([.ref h] : List Value).toArray s 10 1079 (va_A (va_pl L f) s.heap.size) := ⟨_, rfl⟩
  rw [← hQ]
  refine lv_aload_n hx hb dX10_init_0 rfl (lv_at hl 0 rfl) ?_
  refine W.objInit hx hb hown hw_0 hw_1 hw_2 rfl (by rw [hml]; exact hl.1) rfl dX10_init_1 (Nat.le_of_ble_eq_true rfl) (Nat.le_of_ble_eq_true rfl) ?_
  refine W.eq (g2 := F0 m 4 ls []) rfl ?_
  refine lv_aload_n hx hb dX10_init_4 rfl (lv_at hl 0 rfl) ?_
  refine zr_bipush hx hb dX10_init_5 (by decide) ?_
  refine pl_newi hx hb hw_3 0 rfl hK hP hD hS hA 24 rfl (by decide) (Nat.le_of_ble_eq_true rfl) (Nat.le_of_ble_eq_true rfl) dX10_init_7 (fun q1 H hq1 hP hD hS => ?_)
  have hP : va_P D vwCl (va_pl (L ++ [q1]) (va_up f q1 (.inl (k 0, 24, .inl (fun _ => 0))))) H := hP
  have hD : va_D A (va_pl (L ++ [q1]) (va_up f q1 (.inl (k 0, 24, .inl (fun _ => 0))))) := hD
  refine pl_putF (ci := 9) (v := .ref q1) (ty := .array .int) (C := RX10) (T := TX10) (N := 13) hx hb hts hi_X10 tyX10 tyX10_ok nmX10 hown hK hP hD hS (List.mem_append_left _ hh) ((va_up_ne _ _ (ne_new hh hq1)).trans hfh) rfl 1 (by decide) hw_4 (fun _ h9 => h9) rfl hin9 rfl (by decide +kernel) rfl rfl (Nat.le_of_ble_eq_true rfl) dX10_init_9 (fun H locs hP hD hS => ?_)
  have hP : va_P D vwCl (va_pl (L ++ [q1]) (va_up (va_up f q1 (.inl (k 0, 24, .inl (fun _ => 0)))) h (.inr (9, [.int (0), .ref q1, .int (0), .null, .int (0), .null, .null, .null, .null, .null, .null, .null, .null])))) H := hP
  have hD : va_D A (va_pl (L ++ [q1]) (va_up (va_up f q1 (.inl (k 0, 24, .inl (fun _ => 0)))) h (.inr (9, [.int (0), .ref q1, .int (0), .null, .int (0), .null, .null, .null, .null, .null, .null, .null, .null])))) := hD
  refine lv_aload_n hx hb dX10_init_12 rfl (lv_at hl 0 rfl) ?_
  refine zr_bipush hx hb dX10_init_13 (by decide) ?_
  refine pl_newi hx hb hw_3 0 rfl hK hP hD hS hA 100 rfl (by decide) (Nat.le_of_ble_eq_true rfl) (Nat.le_of_ble_eq_true rfl) dX10_init_15 (fun q2 H hq2 hP hD hS => ?_)
  have hP : va_P D vwCl (va_pl (L ++ [q1] ++ [q2]) (va_up (va_up (va_up f q1 (.inl (k 0, 24, .inl (fun _ => 0)))) h (.inr (9, [.int (0), .ref q1, .int (0), .null, .int (0), .null, .null, .null, .null, .null, .null, .null, .null]))) q2 (.inl (k 0, 100, .inl (fun _ => 0))))) H := hP
  have hD : va_D A (va_pl (L ++ [q1] ++ [q2]) (va_up (va_up (va_up f q1 (.inl (k 0, 24, .inl (fun _ => 0)))) h (.inr (9, [.int (0), .ref q1, .int (0), .null, .int (0), .null, .null, .null, .null, .null, .null, .null, .null]))) q2 (.inl (k 0, 100, .inl (fun _ => 0))))) := hD
  refine pl_putF (ci := 9) (v := .ref q2) (ty := .array .int) (C := RX10) (T := TX10) (N := 13) hx hb hts hi_X10 tyX10 tyX10_ok nmX10 hown hK hP hD hS (List.mem_append_left _ (List.mem_append_left _ hh)) ((va_up_ne _ _ (ne_new (List.mem_append_left _ hh) hq2)).trans (va_up_self _ _ _)) rfl 3 (by decide) hw_5 (fun _ h9 => h9) rfl hin9 rfl (by decide +kernel) rfl rfl (Nat.le_of_ble_eq_true rfl) dX10_init_17 (fun H locs hP hD hS => ?_)
  have hP : va_P D vwCl (va_pl (L ++ [q1] ++ [q2]) (va_up (va_up (va_up (va_up f q1 (.inl (k 0, 24, .inl (fun _ => 0)))) h (.inr (9, [.int (0), .ref q1, .int (0), .null, .int (0), .null, .null, .null, .null, .null, .null, .null, .null]))) q2 (.inl (k 0, 100, .inl (fun _ => 0)))) h (.inr (9, [.int (0), .ref q1, .int (0), .ref q2, .int (0), .null, .null, .null, .null, .null, .null, .null, .null])))) H := hP
  have hD : va_D A (va_pl (L ++ [q1] ++ [q2]) (va_up (va_up (va_up (va_up f q1 (.inl (k 0, 24, .inl (fun _ => 0)))) h (.inr (9, [.int (0), .ref q1, .int (0), .null, .int (0), .null, .null, .null, .null, .null, .null, .null, .null]))) q2 (.inl (k 0, 100, .inl (fun _ => 0)))) h (.inr (9, [.int (0), .ref q1, .int (0), .ref q2, .int (0), .null, .null, .null, .null, .null, .null, .null, .null])))) := hD
  refine lv_aload_n hx hb dX10_init_20 rfl (lv_at hl 0 rfl) ?_
  refine zr_bipush hx hb dX10_init_21 (by decide) ?_
  refine pl_newi hx hb hw_3 0 rfl hK hP hD hS hA 30 rfl (by decide) (Nat.le_of_ble_eq_true rfl) (Nat.le_of_ble_eq_true rfl) dX10_init_23 (fun q3 H hq3 hP hD hS => ?_)
  have hP : va_P D vwCl (va_pl (L ++ [q1] ++ [q2] ++ [q3]) (va_up (va_up (va_up (va_up (va_up f q1 (.inl (k 0, 24, .inl (fun _ => 0)))) h (.inr (9, [.int (0), .ref q1, .int (0), .null, .int (0), .null, .null, .null, .null, .null, .null, .null, .null]))) q2 (.inl (k 0, 100, .inl (fun _ => 0)))) h (.inr (9, [.int (0), .ref q1, .int (0), .ref q2, .int (0), .null, .null, .null, .null, .null, .null, .null, .null]))) q3 (.inl (k 0, 30, .inl (fun _ => 0))))) H := hP
  have hD : va_D A (va_pl (L ++ [q1] ++ [q2] ++ [q3]) (va_up (va_up (va_up (va_up (va_up f q1 (.inl (k 0, 24, .inl (fun _ => 0)))) h (.inr (9, [.int (0), .ref q1, .int (0), .null, .int (0), .null, .null, .null, .null, .null, .null, .null, .null]))) q2 (.inl (k 0, 100, .inl (fun _ => 0)))) h (.inr (9, [.int (0), .ref q1, .int (0), .ref q2, .int (0), .null, .null, .null, .null, .null, .null, .null, .null]))) q3 (.inl (k 0, 30, .inl (fun _ => 0))))) := hD
  refine pl_putF (ci := 9) (v := .ref q3) (ty := .array .int) (C := RX10) (T := TX10) (N := 13) hx hb hts hi_X10 tyX10 tyX10_ok nmX10 hown hK hP hD hS (List.mem_append_left _ (List.mem_append_left _ (List.mem_append_left _ hh))) ((va_up_ne _ _ (ne_new (List.mem_append_left _ (List.mem_append_left _ hh)) hq3)).trans (va_up_self _ _ _)) rfl 5 (by decide) hw_6 (fun _ h9 => h9) rfl hin9 rfl (by decide +kernel) rfl rfl (Nat.le_of_ble_eq_true rfl) dX10_init_25 (fun H locs hP hD hS => ?_)
  have hP : va_P D vwCl (va_pl (L ++ [q1] ++ [q2] ++ [q3]) (va_up (va_up (va_up (va_up (va_up (va_up f q1 (.inl (k 0, 24, .inl (fun _ => 0)))) h (.inr (9, [.int (0), .ref q1, .int (0), .null, .int (0), .null, .null, .null, .null, .null, .null, .null, .null]))) q2 (.inl (k 0, 100, .inl (fun _ => 0)))) h (.inr (9, [.int (0), .ref q1, .int (0), .ref q2, .int (0), .null, .null, .null, .null, .null, .null, .null, .null]))) q3 (.inl (k 0, 30, .inl (fun _ => 0)))) h (.inr (9, [.int (0), .ref q1, .int (0), .ref q2, .int (0), .ref q3, .null, .null, .null, .null, .null, .null, .null])))) H := hP
  have hD : va_D A (va_pl (L ++ [q1] ++ [q2] ++ [q3]) (va_up (va_up (va_up (va_up (va_up (va_up f q1 (.inl (k 0, 24, .inl (fun _ => 0)))) h (.inr (9, [.int (0), .ref q1, .int (0), .null, .int (0), .null, .null, .null, .null, .null, .null, .null, .null]))) q2 (.inl (k 0, 100, .inl (fun _ => 0)))) h (.inr (9, [.int (0), .ref q1, .int (0), .ref q2, .int (0), .null, .null, .null, .null, .null, .null, .null, .null]))) q3 (.inl (k 0, 30, .inl (fun _ => 0)))) h (.inr (9, [.int (0), .ref q1, .int (0), .ref q2, .int (0), .ref q3, .null, .null, .null, .null, .null, .null, .null])))) := hD
  refine lv_aload_n hx hb dX10_init_28 rfl (lv_at hl 0 rfl) ?_
  refine zr_bipush hx hb dX10_init_29 (by decide) ?_
  refine pl_newi hx hb hw_3 0 rfl hK hP hD hS hA 30 rfl (by decide) (Nat.le_of_ble_eq_true rfl) (Nat.le_of_ble_eq_true rfl) dX10_init_31 (fun q4 H hq4 hP hD hS => ?_)
  have hP : va_P D vwCl (va_pl (L ++ [q1] ++ [q2] ++ [q3] ++ [q4]) (va_up (va_up (va_up (va_up (va_up (va_up (va_up f q1 (.inl (k 0, 24, .inl (fun _ => 0)))) h (.inr (9, [.int (0), .ref q1, .int (0), .null, .int (0), .null, .null, .null, .null, .null, .null, .null, .null]))) q2 (.inl (k 0, 100, .inl (fun _ => 0)))) h (.inr (9, [.int (0), .ref q1, .int (0), .ref q2, .int (0), .null, .null, .null, .null, .null, .null, .null, .null]))) q3 (.inl (k 0, 30, .inl (fun _ => 0)))) h (.inr (9, [.int (0), .ref q1, .int (0), .ref q2, .int (0), .ref q3, .null, .null, .null, .null, .null, .null, .null]))) q4 (.inl (k 0, 30, .inl (fun _ => 0))))) H := hP
  have hD : va_D A (va_pl (L ++ [q1] ++ [q2] ++ [q3] ++ [q4]) (va_up (va_up (va_up (va_up (va_up (va_up (va_up f q1 (.inl (k 0, 24, .inl (fun _ => 0)))) h (.inr (9, [.int (0), .ref q1, .int (0), .null, .int (0), .null, .null, .null, .null, .null, .null, .null, .null]))) q2 (.inl (k 0, 100, .inl (fun _ => 0)))) h (.inr (9, [.int (0), .ref q1, .int (0), .ref q2, .int (0), .null, .null, .null, .null, .null, .null, .null, .null]))) q3 (.inl (k 0, 30, .inl (fun _ => 0)))) h (.inr (9, [.int (0), .ref q1, .int (0), .ref q2, .int (0), .ref q3, .null, .null, .null, .null, .null, .null, .null]))) q4 (.inl (k 0, 30, .inl (fun _ => 0))))) := hD
  refine pl_putF (ci := 9) (v := .ref q4) (ty := .array .int) (C := RX10) (T := TX10) (N := 13) hx hb hts hi_X10 tyX10 tyX10_ok nmX10 hown hK hP hD hS (List.mem_append_left _ (List.mem_append_left _ (List.mem_append_left _ (List.mem_append_left _ hh)))) ((va_up_ne _ _ (ne_new (List.mem_append_left _ (List.mem_append_left _ (List.mem_append_left _ hh))) hq4)).trans (va_up_self _ _ _)) rfl 6 (by decide) hw_7 (fun _ h9 => h9) rfl hin9 rfl (by decide +kernel) rfl rfl (Nat.le_of_ble_eq_true rfl) dX10_init_33 (fun H locs hP hD hS => ?_)
  have hP : va_P D vwCl (va_pl (L ++ [q1] ++ [q2] ++ [q3] ++ [q4]) (va_up (va_up (va_up (va_up (va_up (va_up (va_up (va_up f q1 (.inl (k 0, 24, .inl (fun _ => 0)))) h (.inr (9, [.int (0), .ref q1, .int (0), .null, .int (0), .null, .null, .null, .null, .null, .null, .null, .null]))) q2 (.inl (k 0, 100, .inl (fun _ => 0)))) h (.inr (9, [.int (0), .ref q1, .int (0), .ref q2, .int (0), .null, .null, .null, .null, .null, .null, .null, .null]))) q3 (.inl (k 0, 30, .inl (fun _ => 0)))) h (.inr (9, [.int (0), .ref q1, .int (0), .ref q2, .int (0), .ref q3, .null, .null, .null, .null, .null, .null, .null]))) q4 (.inl (k 0, 30, .inl (fun _ => 0)))) h (.inr (9, [.int (0), .ref q1, .int (0), .ref q2, .int (0), .ref q3, .ref q4, .null, .null, .null, .null, .null, .null])))) H := hP
  have hD : va_D A (va_pl (L ++ [q1] ++ [q2] ++ [q3] ++ [q4]) (va_up (va_up (va_up (va_up (va_up (va_up (va_up (va_up f q1 (.inl (k 0, 24, .inl (fun _ => 0)))) h (.inr (9, [.int (0), .ref q1, .int (0), .null, .int (0), .null, .null, .null, .null, .null, .null, .null, .null]))) q2 (.inl (k 0, 100, .inl (fun _ => 0)))) h (.inr (9, [.int (0), .ref q1, .int (0), .ref q2, .int (0), .null, .null, .null, .null, .null, .null, .null, .null]))) q3 (.inl (k 0, 30, .inl (fun _ => 0)))) h (.inr (9, [.int (0), .ref q1, .int (0), .ref q2, .int (0), .ref q3, .null, .null, .null, .null, .null, .null, .null]))) q4 (.inl (k 0, 30, .inl (fun _ => 0)))) h (.inr (9, [.int (0), .ref q1, .int (0), .ref q2, .int (0), .ref q3, .ref q4, .null, .null, .null, .null, .null, .null])))) := hD
  refine lv_aload_n hx hb dX10_init_36 rfl (lv_at hl 0 rfl) ?_
  refine zr_bipush hx hb dX10_init_37 (by decide) ?_
  refine pl_newi hx hb hw_3 0 rfl hK hP hD hS hA 30 rfl (by decide) (Nat.le_of_ble_eq_true rfl) (Nat.le_of_ble_eq_true rfl) dX10_init_39 (fun q5 H hq5 hP hD hS => ?_)
  have hP : va_P D vwCl (va_pl (L ++ [q1] ++ [q2] ++ [q3] ++ [q4] ++ [q5]) (va_up (va_up (va_up (va_up (va_up (va_up (va_up (va_up (va_up f q1 (.inl (k 0, 24, .inl (fun _ => 0)))) h (.inr (9, [.int (0), .ref q1, .int (0), .null, .int (0), .null, .null, .null, .null, .null, .null, .null, .null]))) q2 (.inl (k 0, 100, .inl (fun _ => 0)))) h (.inr (9, [.int (0), .ref q1, .int (0), .ref q2, .int (0), .null, .null, .null, .null, .null, .null, .null, .null]))) q3 (.inl (k 0, 30, .inl (fun _ => 0)))) h (.inr (9, [.int (0), .ref q1, .int (0), .ref q2, .int (0), .ref q3, .null, .null, .null, .null, .null, .null, .null]))) q4 (.inl (k 0, 30, .inl (fun _ => 0)))) h (.inr (9, [.int (0), .ref q1, .int (0), .ref q2, .int (0), .ref q3, .ref q4, .null, .null, .null, .null, .null, .null]))) q5 (.inl (k 0, 30, .inl (fun _ => 0))))) H := hP
  have hD : va_D A (va_pl (L ++ [q1] ++ [q2] ++ [q3] ++ [q4] ++ [q5]) (va_up (va_up (va_up (va_up (va_up (va_up (va_up (va_up (va_up f q1 (.inl (k 0, 24, .inl (fun _ => 0)))) h (.inr (9, [.int (0), .ref q1, .int (0), .null, .int (0), .null, .null, .null, .null, .null, .null, .null, .null]))) q2 (.inl (k 0, 100, .inl (fun _ => 0)))) h (.inr (9, [.int (0), .ref q1, .int (0), .ref q2, .int (0), .null, .null, .null, .null, .null, .null, .null, .null]))) q3 (.inl (k 0, 30, .inl (fun _ => 0)))) h (.inr (9, [.int (0), .ref q1, .int (0), .ref q2, .int (0), .ref q3, .null, .null, .null, .null, .null, .null, .null]))) q4 (.inl (k 0, 30, .inl (fun _ => 0)))) h (.inr (9, [.int (0), .ref q1, .int (0), .ref q2, .int (0), .ref q3, .ref q4, .null, .null, .null, .null, .null, .null]))) q5 (.inl (k 0, 30, .inl (fun _ => 0))))) := hD
  refine pl_putF (ci := 9) (v := .ref q5) (ty := .array .int) (C := RX10) (T := TX10) (N := 13) hx hb hts hi_X10 tyX10 tyX10_ok nmX10 hown hK hP hD hS (List.mem_append_left _ (List.mem_append_left _ (List.mem_append_left _ (List.mem_append_left _ (List.mem_append_left _ hh))))) ((va_up_ne _ _ (ne_new (List.mem_append_left _ (List.mem_append_left _ (List.mem_append_left _ (List.mem_append_left _ hh)))) hq5)).trans (va_up_self _ _ _)) rfl 7 (by decide) hw_8 (fun _ h9 => h9) rfl hin9 rfl (by decide +kernel) rfl rfl (Nat.le_of_ble_eq_true rfl) dX10_init_41 (fun H locs hP hD hS => ?_)
  have hP : va_P D vwCl (va_pl (L ++ [q1] ++ [q2] ++ [q3] ++ [q4] ++ [q5]) (va_up (va_up (va_up (va_up (va_up (va_up (va_up (va_up (va_up (va_up f q1 (.inl (k 0, 24, .inl (fun _ => 0)))) h (.inr (9, [.int (0), .ref q1, .int (0), .null, .int (0), .null, .null, .null, .null, .null, .null, .null, .null]))) q2 (.inl (k 0, 100, .inl (fun _ => 0)))) h (.inr (9, [.int (0), .ref q1, .int (0), .ref q2, .int (0), .null, .null, .null, .null, .null, .null, .null, .null]))) q3 (.inl (k 0, 30, .inl (fun _ => 0)))) h (.inr (9, [.int (0), .ref q1, .int (0), .ref q2, .int (0), .ref q3, .null, .null, .null, .null, .null, .null, .null]))) q4 (.inl (k 0, 30, .inl (fun _ => 0)))) h (.inr (9, [.int (0), .ref q1, .int (0), .ref q2, .int (0), .ref q3, .ref q4, .null, .null, .null, .null, .null, .null]))) q5 (.inl (k 0, 30, .inl (fun _ => 0)))) h (.inr (9, [.int (0), .ref q1, .int (0), .ref q2, .int (0), .ref q3, .ref q4, .ref q5, .null, .null, .null, .null, .null])))) H := hP
  have hD : va_D A (va_pl (L ++ [q1] ++ [q2] ++ [q3] ++ [q4] ++ [q5]) (va_up (va_up (va_up (va_up (va_up (va_up (va_up (va_up (va_up (va_up f q1 (.inl (k 0, 24, .inl (fun _ => 0)))) h (.inr (9, [.int (0), .ref q1, .int (0), .null, .int (0), .null, .null, .null, .null, .null, .null, .null, .null]))) q2 (.inl (k 0, 100, .inl (fun _ => 0)))) h (.inr (9, [.int (0), .ref q1, .int (0), .ref q2, .int (0), .null, .null, .null, .null, .null, .null, .null, .null]))) q3 (.inl (k 0, 30, .inl (fun _ => 0)))) h (.inr (9, [.int (0), .ref q1, .int (0), .ref q2, .int (0), .ref q3, .null, .null, .null, .null, .null, .null, .null]))) q4 (.inl (k 0, 30, .inl (fun _ => 0)))) h (.inr (9, [.int (0), .ref q1, .int (0), .ref q2, .int (0), .ref q3, .ref q4, .null, .null, .null, .null, .null, .null]))) q5 (.inl (k 0, 30, .inl (fun _ => 0)))) h (.inr (9, [.int (0), .ref q1, .int (0), .ref q2, .int (0), .ref q3, .ref q4, .ref q5, .null, .null, .null, .null, .null])))) := hD
  refine lv_aload_n hx hb dX10_init_44 rfl (lv_at hl 0 rfl) ?_
  refine zr_bipush hx hb dX10_init_45 (by decide) ?_
  refine pl_newi hx hb hw_3 0 rfl hK hP hD hS hA 30 rfl (by decide) (Nat.le_of_ble_eq_true rfl) (Nat.le_of_ble_eq_true rfl) dX10_init_47 (fun q6 H hq6 hP hD hS => ?_)
  have hP : va_P D vwCl (va_pl (L ++ [q1] ++ [q2] ++ [q3] ++ [q4] ++ [q5] ++ [q6]) (va_up (va_up (va_up (va_up (va_up (va_up (va_up (va_up (va_up (va_up (va_up f q1 (.inl (k 0, 24, .inl (fun _ => 0)))) h (.inr (9, [.int (0), .ref q1, .int (0), .null, .int (0), .null, .null, .null, .null, .null, .null, .null, .null]))) q2 (.inl (k 0, 100, .inl (fun _ => 0)))) h (.inr (9, [.int (0), .ref q1, .int (0), .ref q2, .int (0), .null, .null, .null, .null, .null, .null, .null, .null]))) q3 (.inl (k 0, 30, .inl (fun _ => 0)))) h (.inr (9, [.int (0), .ref q1, .int (0), .ref q2, .int (0), .ref q3, .null, .null, .null, .null, .null, .null, .null]))) q4 (.inl (k 0, 30, .inl (fun _ => 0)))) h (.inr (9, [.int (0), .ref q1, .int (0), .ref q2, .int (0), .ref q3, .ref q4, .null, .null, .null, .null, .null, .null]))) q5 (.inl (k 0, 30, .inl (fun _ => 0)))) h (.inr (9, [.int (0), .ref q1, .int (0), .ref q2, .int (0), .ref q3, .ref q4, .ref q5, .null, .null, .null, .null, .null]))) q6 (.inl (k 0, 30, .inl (fun _ => 0))))) H := hP
  have hD : va_D A (va_pl (L ++ [q1] ++ [q2] ++ [q3] ++ [q4] ++ [q5] ++ [q6]) (va_up (va_up (va_up (va_up (va_up (va_up (va_up (va_up (va_up (va_up (va_up f q1 (.inl (k 0, 24, .inl (fun _ => 0)))) h (.inr (9, [.int (0), .ref q1, .int (0), .null, .int (0), .null, .null, .null, .null, .null, .null, .null, .null]))) q2 (.inl (k 0, 100, .inl (fun _ => 0)))) h (.inr (9, [.int (0), .ref q1, .int (0), .ref q2, .int (0), .null, .null, .null, .null, .null, .null, .null, .null]))) q3 (.inl (k 0, 30, .inl (fun _ => 0)))) h (.inr (9, [.int (0), .ref q1, .int (0), .ref q2, .int (0), .ref q3, .null, .null, .null, .null, .null, .null, .null]))) q4 (.inl (k 0, 30, .inl (fun _ => 0)))) h (.inr (9, [.int (0), .ref q1, .int (0), .ref q2, .int (0), .ref q3, .ref q4, .null, .null, .null, .null, .null, .null]))) q5 (.inl (k 0, 30, .inl (fun _ => 0)))) h (.inr (9, [.int (0), .ref q1, .int (0), .ref q2, .int (0), .ref q3, .ref q4, .ref q5, .null, .null, .null, .null, .null]))) q6 (.inl (k 0, 30, .inl (fun _ => 0))))) := hD
  refine pl_putF (ci := 9) (v := .ref q6) (ty := .array .int) (C := RX10) (T := TX10) (N := 13) hx hb hts hi_X10 tyX10 tyX10_ok nmX10 hown hK hP hD hS (List.mem_append_left _ (List.mem_append_left _ (List.mem_append_left _ (List.mem_append_left _ (List.mem_append_left _ (List.mem_append_left _ hh)))))) ((va_up_ne _ _ (ne_new (List.mem_append_left _ (List.mem_append_left _ (List.mem_append_left _ (List.mem_append_left _ (List.mem_append_left _ hh))))) hq6)).trans (va_up_self _ _ _)) rfl 8 (by decide) hw_9 (fun _ h9 => h9) rfl hin9 rfl (by decide +kernel) rfl rfl (Nat.le_of_ble_eq_true rfl) dX10_init_49 (fun H locs hP hD hS => ?_)
  have hP : va_P D vwCl (va_pl (L ++ [q1] ++ [q2] ++ [q3] ++ [q4] ++ [q5] ++ [q6]) (va_up (va_up (va_up (va_up (va_up (va_up (va_up (va_up (va_up (va_up (va_up (va_up f q1 (.inl (k 0, 24, .inl (fun _ => 0)))) h (.inr (9, [.int (0), .ref q1, .int (0), .null, .int (0), .null, .null, .null, .null, .null, .null, .null, .null]))) q2 (.inl (k 0, 100, .inl (fun _ => 0)))) h (.inr (9, [.int (0), .ref q1, .int (0), .ref q2, .int (0), .null, .null, .null, .null, .null, .null, .null, .null]))) q3 (.inl (k 0, 30, .inl (fun _ => 0)))) h (.inr (9, [.int (0), .ref q1, .int (0), .ref q2, .int (0), .ref q3, .null, .null, .null, .null, .null, .null, .null]))) q4 (.inl (k 0, 30, .inl (fun _ => 0)))) h (.inr (9, [.int (0), .ref q1, .int (0), .ref q2, .int (0), .ref q3, .ref q4, .null, .null, .null, .null, .null, .null]))) q5 (.inl (k 0, 30, .inl (fun _ => 0)))) h (.inr (9, [.int (0), .ref q1, .int (0), .ref q2, .int (0), .ref q3, .ref q4, .ref q5, .null, .null, .null, .null, .null]))) q6 (.inl (k 0, 30, .inl (fun _ => 0)))) h (.inr (9, [.int (0), .ref q1, .int (0), .ref q2, .int (0), .ref q3, .ref q4, .ref q5, .ref q6, .null, .null, .null, .null])))) H := hP
  have hD : va_D A (va_pl (L ++ [q1] ++ [q2] ++ [q3] ++ [q4] ++ [q5] ++ [q6]) (va_up (va_up (va_up (va_up (va_up (va_up (va_up (va_up (va_up (va_up (va_up (va_up f q1 (.inl (k 0, 24, .inl (fun _ => 0)))) h (.inr (9, [.int (0), .ref q1, .int (0), .null, .int (0), .null, .null, .null, .null, .null, .null, .null, .null]))) q2 (.inl (k 0, 100, .inl (fun _ => 0)))) h (.inr (9, [.int (0), .ref q1, .int (0), .ref q2, .int (0), .null, .null, .null, .null, .null, .null, .null, .null]))) q3 (.inl (k 0, 30, .inl (fun _ => 0)))) h (.inr (9, [.int (0), .ref q1, .int (0), .ref q2, .int (0), .ref q3, .null, .null, .null, .null, .null, .null, .null]))) q4 (.inl (k 0, 30, .inl (fun _ => 0)))) h (.inr (9, [.int (0), .ref q1, .int (0), .ref q2, .int (0), .ref q3, .ref q4, .null, .null, .null, .null, .null, .null]))) q5 (.inl (k 0, 30, .inl (fun _ => 0)))) h (.inr (9, [.int (0), .ref q1, .int (0), .ref q2, .int (0), .ref q3, .ref q4, .ref q5, .null, .null, .null, .null, .null]))) q6 (.inl (k 0, 30, .inl (fun _ => 0)))) h (.inr (9, [.int (0), .ref q1, .int (0), .ref q2, .int (0), .ref q3, .ref q4, .ref q5, .ref q6, .null, .null, .null, .null])))) := hD
  refine lv_aload_n hx hb dX10_init_52 rfl (lv_at hl 0 rfl) ?_
  refine zr_bipush hx hb dX10_init_53 (by decide) ?_
  refine pl_newi hx hb hw_3 0 rfl hK hP hD hS hA 30 rfl (by decide) (Nat.le_of_ble_eq_true rfl) (Nat.le_of_ble_eq_true rfl) dX10_init_55 (fun q7 H hq7 hP hD hS => ?_)
  have hP : va_P D vwCl (va_pl (L ++ [q1] ++ [q2] ++ [q3] ++ [q4] ++ [q5] ++ [q6] ++ [q7]) (va_up (va_up (va_up (va_up (va_up (va_up (va_up (va_up (va_up (va_up (va_up (va_up (va_up f q1 (.inl (k 0, 24, .inl (fun _ => 0)))) h (.inr (9, [.int (0), .ref q1, .int (0), .null, .int (0), .null, .null, .null, .null, .null, .null, .null, .null]))) q2 (.inl (k 0, 100, .inl (fun _ => 0)))) h (.inr (9, [.int (0), .ref q1, .int (0), .ref q2, .int (0), .null, .null, .null, .null, .null, .null, .null, .null]))) q3 (.inl (k 0, 30, .inl (fun _ => 0)))) h (.inr (9, [.int (0), .ref q1, .int (0), .ref q2, .int (0), .ref q3, .null, .null, .null, .null, .null, .null, .null]))) q4 (.inl (k 0, 30, .inl (fun _ => 0)))) h (.inr (9, [.int (0), .ref q1, .int (0), .ref q2, .int (0), .ref q3, .ref q4, .null, .null, .null, .null, .null, .null]))) q5 (.inl (k 0, 30, .inl (fun _ => 0)))) h (.inr (9, [.int (0), .ref q1, .int (0), .ref q2, .int (0), .ref q3, .ref q4, .ref q5, .null, .null, .null, .null, .null]))) q6 (.inl (k 0, 30, .inl (fun _ => 0)))) h (.inr (9, [.int (0), .ref q1, .int (0), .ref q2, .int (0), .ref q3, .ref q4, .ref q5, .ref q6, .null, .null, .null, .null]))) q7 (.inl (k 0, 30, .inl (fun _ => 0))))) H := hP
  have hD : va_D A (va_pl (L ++ [q1] ++ [q2] ++ [q3] ++ [q4] ++ [q5] ++ [q6] ++ [q7]) (va_up (va_up (va_up (va_up (va_up (va_up (va_up (va_up (va_up (va_up (va_up (va_up (va_up f q1 (.inl (k 0, 24, .inl (fun _ => 0)))) h (.inr (9, [.int (0), .ref q1, .int (0), .null, .int (0), .null, .null, .null, .null, .null, .null, .null, .null]))) q2 (.inl (k 0, 100, .inl (fun _ => 0)))) h (.inr (9, [.int (0), .ref q1, .int (0), .ref q2, .int (0), .null, .null, .null, .null, .null, .null, .null, .null]))) q3 (.inl (k 0, 30, .inl (fun _ => 0)))) h (.inr (9, [.int (0), .ref q1, .int (0), .ref q2, .int (0), .ref q3, .null, .null, .null, .null, .null, .null, .null]))) q4 (.inl (k 0, 30, .inl (fun _ => 0)))) h (.inr (9, [.int (0), .ref q1, .int (0), .ref q2, .int (0), .ref q3, .ref q4, .null, .null, .null, .null, .null, .null]))) q5 (.inl (k 0, 30, .inl (fun _ => 0)))) h (.inr (9, [.int (0), .ref q1, .int (0), .ref q2, .int (0), .ref q3, .ref q4, .ref q5, .null, .null, .null, .null, .null]))) q6 (.inl (k 0, 30, .inl (fun _ => 0)))) h (.inr (9, [.int (0), .ref q1, .int (0), .ref q2, .int (0), .ref q3, .ref q4, .ref q5, .ref q6, .null, .null, .null, .null]))) q7 (.inl (k 0, 30, .inl (fun _ => 0))))) := hD
  refine pl_putF (ci := 9) (v := .ref q7) (ty := .array .int) (C := RX10) (T := TX10) (N := 13) hx hb hts hi_X10 tyX10 tyX10_ok nmX10 hown hK hP hD hS (List.mem_append_left _ (List.mem_append_left _ (List.mem_append_left _ (List.mem_append_left _ (List.mem_append_left _ (List.mem_append_left _ (List.mem_append_left _ hh))))))) ((va_up_ne _ _ (ne_new (List.mem_append_left _ (List.mem_append_left _ (List.mem_append_left _ (List.mem_append_left _ (List.mem_append_left _ (List.mem_append_left _ hh)))))) hq7)).trans (va_up_self _ _ _)) rfl 9 (by decide) hw_10 (fun _ h9 => h9) rfl hin9 rfl (by decide +kernel) rfl rfl (Nat.le_of_ble_eq_true rfl) dX10_init_57 (fun H locs hP hD hS => ?_)
  have hP : va_P D vwCl (va_pl (L ++ [q1] ++ [q2] ++ [q3] ++ [q4] ++ [q5] ++ [q6] ++ [q7]) (va_up (va_up (va_up (va_up (va_up (va_up (va_up (va_up (va_up (va_up (va_up (va_up (va_up (va_up f q1 (.inl (k 0, 24, .inl (fun _ => 0)))) h (.inr (9, [.int (0), .ref q1, .int (0), .null, .int (0), .null, .null, .null, .null, .null, .null, .null, .null]))) q2 (.inl (k 0, 100, .inl (fun _ => 0)))) h (.inr (9, [.int (0), .ref q1, .int (0), .ref q2, .int (0), .null, .null, .null, .null, .null, .null, .null, .null]))) q3 (.inl (k 0, 30, .inl (fun _ => 0)))) h (.inr (9, [.int (0), .ref q1, .int (0), .ref q2, .int (0), .ref q3, .null, .null, .null, .null, .null, .null, .null]))) q4 (.inl (k 0, 30, .inl (fun _ => 0)))) h (.inr (9, [.int (0), .ref q1, .int (0), .ref q2, .int (0), .ref q3, .ref q4, .null, .null, .null, .null, .null, .null]))) q5 (.inl (k 0, 30, .inl (fun _ => 0)))) h (.inr (9, [.int (0), .ref q1, .int (0), .ref q2, .int (0), .ref q3, .ref q4, .ref q5, .null, .null, .null, .null, .null]))) q6 (.inl (k 0, 30, .inl (fun _ => 0)))) h (.inr (9, [.int (0), .ref q1, .int (0), .ref q2, .int (0), .ref q3, .ref q4, .ref q5, .ref q6, .null, .null, .null, .null]))) q7 (.inl (k 0, 30, .inl (fun _ => 0)))) h (.inr (9, [.int (0), .ref q1, .int (0), .ref q2, .int (0), .ref q3, .ref q4, .ref q5, .ref q6, .ref q7, .null, .null, .null])))) H := hP
  have hD : va_D A (va_pl (L ++ [q1] ++ [q2] ++ [q3] ++ [q4] ++ [q5] ++ [q6] ++ [q7]) (va_up (va_up (va_up (va_up (va_up (va_up (va_up (va_up (va_up (va_up (va_up (va_up (va_up (va_up f q1 (.inl (k 0, 24, .inl (fun _ => 0)))) h (.inr (9, [.int (0), .ref q1, .int (0), .null, .int (0), .null, .null, .null, .null, .null, .null, .null, .null]))) q2 (.inl (k 0, 100, .inl (fun _ => 0)))) h (.inr (9, [.int (0), .ref q1, .int (0), .ref q2, .int (0), .null, .null, .null, .null, .null, .null, .null, .null]))) q3 (.inl (k 0, 30, .inl (fun _ => 0)))) h (.inr (9, [.int (0), .ref q1, .int (0), .ref q2, .int (0), .ref q3, .null, .null, .null, .null, .null, .null, .null]))) q4 (.inl (k 0, 30, .inl (fun _ => 0)))) h (.inr (9, [.int (0), .ref q1, .int (0), .ref q2, .int (0), .ref q3, .ref q4, .null, .null, .null, .null, .null, .null]))) q5 (.inl (k 0, 30, .inl (fun _ => 0)))) h (.inr (9, [.int (0), .ref q1, .int (0), .ref q2, .int (0), .ref q3, .ref q4, .ref q5, .null, .null, .null, .null, .null]))) q6 (.inl (k 0, 30, .inl (fun _ => 0)))) h (.inr (9, [.int (0), .ref q1, .int (0), .ref q2, .int (0), .ref q3, .ref q4, .ref q5, .ref q6, .null, .null, .null, .null]))) q7 (.inl (k 0, 30, .inl (fun _ => 0)))) h (.inr (9, [.int (0), .ref q1, .int (0), .ref q2, .int (0), .ref q3, .ref q4, .ref q5, .ref q6, .ref q7, .null, .null, .null])))) := hD
  refine lv_aload_n hx hb dX10_init_60 rfl (lv_at hl 0 rfl) ?_
  refine zr_bipush hx hb dX10_init_61 (by decide) ?_
  refine pl_newz hx hb hw_11 1 rfl hK hP hD hS hA 30 rfl (by decide) (Nat.le_of_ble_eq_true rfl) (Nat.le_of_ble_eq_true rfl) dX10_init_63 (fun q8 H hq8 hP hD hS => ?_)
  have hP : va_P D vwCl (va_pl (L ++ [q1] ++ [q2] ++ [q3] ++ [q4] ++ [q5] ++ [q6] ++ [q7] ++ [q8]) (va_up (va_up (va_up (va_up (va_up (va_up (va_up (va_up (va_up (va_up (va_up (va_up (va_up (va_up (va_up f q1 (.inl (k 0, 24, .inl (fun _ => 0)))) h (.inr (9, [.int (0), .ref q1, .int (0), .null, .int (0), .null, .null, .null, .null, .null, .null, .null, .null]))) q2 (.inl (k 0, 100, .inl (fun _ => 0)))) h (.inr (9, [.int (0), .ref q1, .int (0), .ref q2, .int (0), .null, .null, .null, .null, .null, .null, .null, .null]))) q3 (.inl (k 0, 30, .inl (fun _ => 0)))) h (.inr (9, [.int (0), .ref q1, .int (0), .ref q2, .int (0), .ref q3, .null, .null, .null, .null, .null, .null, .null]))) q4 (.inl (k 0, 30, .inl (fun _ => 0)))) h (.inr (9, [.int (0), .ref q1, .int (0), .ref q2, .int (0), .ref q3, .ref q4, .null, .null, .null, .null, .null, .null]))) q5 (.inl (k 0, 30, .inl (fun _ => 0)))) h (.inr (9, [.int (0), .ref q1, .int (0), .ref q2, .int (0), .ref q3, .ref q4, .ref q5, .null, .null, .null, .null, .null]))) q6 (.inl (k 0, 30, .inl (fun _ => 0)))) h (.inr (9, [.int (0), .ref q1, .int (0), .ref q2, .int (0), .ref q3, .ref q4, .ref q5, .ref q6, .null, .null, .null, .null]))) q7 (.inl (k 0, 30, .inl (fun _ => 0)))) h (.inr (9, [.int (0), .ref q1, .int (0), .ref q2, .int (0), .ref q3, .ref q4, .ref q5, .ref q6, .ref q7, .null, .null, .null]))) q8 (.inl (k 1, 30, .inl (fun _ => 0))))) H := hP
  have hD : va_D A (va_pl (L ++ [q1] ++ [q2] ++ [q3] ++ [q4] ++ [q5] ++ [q6] ++ [q7] ++ [q8]) (va_up (va_up (va_up (va_up (va_up (va_up (va_up (va_up (va_up (va_up (va_up (va_up (va_up (va_up (va_up f q1 (.inl (k 0, 24, .inl (fun _ => 0)))) h (.inr (9, [.int (0), .ref q1, .int (0), .null, .int (0), .null, .null, .null, .null, .null, .null, .null, .null]))) q2 (.inl (k 0, 100, .inl (fun _ => 0)))) h (.inr (9, [.int (0), .ref q1, .int (0), .ref q2, .int (0), .null, .null, .null, .null, .null, .null, .null, .null]))) q3 (.inl (k 0, 30, .inl (fun _ => 0)))) h (.inr (9, [.int (0), .ref q1, .int (0), .ref q2, .int (0), .ref q3, .null, .null, .null, .null, .null, .null, .null]))) q4 (.inl (k 0, 30, .inl (fun _ => 0)))) h (.inr (9, [.int (0), .ref q1, .int (0), .ref q2, .int (0), .ref q3, .ref q4, .null, .null, .null, .null, .null, .null]))) q5 (.inl (k 0, 30, .inl (fun _ => 0)))) h (.inr (9, [.int (0), .ref q1, .int (0), .ref q2, .int (0), .ref q3, .ref q4, .ref q5, .null, .null, .null, .null, .null]))) q6 (.inl (k 0, 30, .inl (fun _ => 0)))) h (.inr (9, [.int (0), .ref q1, .int (0), .ref q2, .int (0), .ref q3, .ref q4, .ref q5, .ref q6, .null, .null, .null, .null]))) q7 (.inl (k 0, 30, .inl (fun _ => 0)))) h (.inr (9, [.int (0), .ref q1, .int (0), .ref q2, .int (0), .ref q3, .ref q4, .ref q5, .ref q6, .ref q7, .null, .null, .null]))) q8 (.inl (k 1, 30, .inl (fun _ => 0))))) := hD
  refine pl_putF (ci := 9) (v := .ref q8) (ty := .array .boolean) (C := RX10) (T := TX10) (N := 13) hx hb hts hi_X10 tyX10 tyX10_ok nmX10 hown hK hP hD hS (List.mem_append_left _ (List.mem_append_left _ (List.mem_append_left _ (List.mem_append_left _ (List.mem_append_left _ (List.mem_append_left _ (List.mem_append_left _ (List.mem_append_left _ hh)))))))) ((va_up_ne _ _ (ne_new (List.mem_append_left _ (List.mem_append_left _ (List.mem_append_left _ (List.mem_append_left _ (List.mem_append_left _ (List.mem_append_left _ (List.mem_append_left _ hh))))))) hq8)).trans (va_up_self _ _ _)) rfl 10 (by decide) hw_12 (fun _ h9 => h9) rfl hin9 rfl (by decide +kernel) rfl rfl (Nat.le_of_ble_eq_true rfl) dX10_init_65 (fun H locs hP hD hS => ?_)
  have hP : va_P D vwCl (va_pl (L ++ [q1] ++ [q2] ++ [q3] ++ [q4] ++ [q5] ++ [q6] ++ [q7] ++ [q8]) (va_up (va_up (va_up (va_up (va_up (va_up (va_up (va_up (va_up (va_up (va_up (va_up (va_up (va_up (va_up (va_up f q1 (.inl (k 0, 24, .inl (fun _ => 0)))) h (.inr (9, [.int (0), .ref q1, .int (0), .null, .int (0), .null, .null, .null, .null, .null, .null, .null, .null]))) q2 (.inl (k 0, 100, .inl (fun _ => 0)))) h (.inr (9, [.int (0), .ref q1, .int (0), .ref q2, .int (0), .null, .null, .null, .null, .null, .null, .null, .null]))) q3 (.inl (k 0, 30, .inl (fun _ => 0)))) h (.inr (9, [.int (0), .ref q1, .int (0), .ref q2, .int (0), .ref q3, .null, .null, .null, .null, .null, .null, .null]))) q4 (.inl (k 0, 30, .inl (fun _ => 0)))) h (.inr (9, [.int (0), .ref q1, .int (0), .ref q2, .int (0), .ref q3, .ref q4, .null, .null, .null, .null, .null, .null]))) q5 (.inl (k 0, 30, .inl (fun _ => 0)))) h (.inr (9, [.int (0), .ref q1, .int (0), .ref q2, .int (0), .ref q3, .ref q4, .ref q5, .null, .null, .null, .null, .null]))) q6 (.inl (k 0, 30, .inl (fun _ => 0)))) h (.inr (9, [.int (0), .ref q1, .int (0), .ref q2, .int (0), .ref q3, .ref q4, .ref q5, .ref q6, .null, .null, .null, .null]))) q7 (.inl (k 0, 30, .inl (fun _ => 0)))) h (.inr (9, [.int (0), .ref q1, .int (0), .ref q2, .int (0), .ref q3, .ref q4, .ref q5, .ref q6, .ref q7, .null, .null, .null]))) q8 (.inl (k 1, 30, .inl (fun _ => 0)))) h (.inr (9, [.int (0), .ref q1, .int (0), .ref q2, .int (0), .ref q3, .ref q4, .ref q5, .ref q6, .ref q7, .ref q8, .null, .null])))) H := hP
  have hD : va_D A (va_pl (L ++ [q1] ++ [q2] ++ [q3] ++ [q4] ++ [q5] ++ [q6] ++ [q7] ++ [q8]) (va_up (va_up (va_up (va_up (va_up (va_up (va_up (va_up (va_up (va_up (va_up (va_up (va_up (va_up (va_up (va_up f q1 (.inl (k 0, 24, .inl (fun _ => 0)))) h (.inr (9, [.int (0), .ref q1, .int (0), .null, .int (0), .null, .null, .null, .null, .null, .null, .null, .null]))) q2 (.inl (k 0, 100, .inl (fun _ => 0)))) h (.inr (9, [.int (0), .ref q1, .int (0), .ref q2, .int (0), .null, .null, .null, .null, .null, .null, .null, .null]))) q3 (.inl (k 0, 30, .inl (fun _ => 0)))) h (.inr (9, [.int (0), .ref q1, .int (0), .ref q2, .int (0), .ref q3, .null, .null, .null, .null, .null, .null, .null]))) q4 (.inl (k 0, 30, .inl (fun _ => 0)))) h (.inr (9, [.int (0), .ref q1, .int (0), .ref q2, .int (0), .ref q3, .ref q4, .null, .null, .null, .null, .null, .null]))) q5 (.inl (k 0, 30, .inl (fun _ => 0)))) h (.inr (9, [.int (0), .ref q1, .int (0), .ref q2, .int (0), .ref q3, .ref q4, .ref q5, .null, .null, .null, .null, .null]))) q6 (.inl (k 0, 30, .inl (fun _ => 0)))) h (.inr (9, [.int (0), .ref q1, .int (0), .ref q2, .int (0), .ref q3, .ref q4, .ref q5, .ref q6, .null, .null, .null, .null]))) q7 (.inl (k 0, 30, .inl (fun _ => 0)))) h (.inr (9, [.int (0), .ref q1, .int (0), .ref q2, .int (0), .ref q3, .ref q4, .ref q5, .ref q6, .ref q7, .null, .null, .null]))) q8 (.inl (k 1, 30, .inl (fun _ => 0)))) h (.inr (9, [.int (0), .ref q1, .int (0), .ref q2, .int (0), .ref q3, .ref q4, .ref q5, .ref q6, .ref q7, .ref q8, .null, .null])))) := hD
  refine lv_aload_n hx hb dX10_init_68 rfl (lv_at hl 0 rfl) ?_
  refine zr_sipush hx hb dX10_init_69 (by decide) ?_
  refine pl_newi hx hb hw_3 0 rfl hK hP hD hS hA 750 rfl (by decide) (Nat.le_of_ble_eq_true rfl) (Nat.le_of_ble_eq_true rfl) dX10_init_72 (fun q9 H hq9 hP hD hS => ?_)
  have hP : va_P D vwCl (va_pl (L ++ [q1] ++ [q2] ++ [q3] ++ [q4] ++ [q5] ++ [q6] ++ [q7] ++ [q8] ++ [q9]) (va_up (va_up (va_up (va_up (va_up (va_up (va_up (va_up (va_up (va_up (va_up (va_up (va_up (va_up (va_up (va_up (va_up f q1 (.inl (k 0, 24, .inl (fun _ => 0)))) h (.inr (9, [.int (0), .ref q1, .int (0), .null, .int (0), .null, .null, .null, .null, .null, .null, .null, .null]))) q2 (.inl (k 0, 100, .inl (fun _ => 0)))) h (.inr (9, [.int (0), .ref q1, .int (0), .ref q2, .int (0), .null, .null, .null, .null, .null, .null, .null, .null]))) q3 (.inl (k 0, 30, .inl (fun _ => 0)))) h (.inr (9, [.int (0), .ref q1, .int (0), .ref q2, .int (0), .ref q3, .null, .null, .null, .null, .null, .null, .null]))) q4 (.inl (k 0, 30, .inl (fun _ => 0)))) h (.inr (9, [.int (0), .ref q1, .int (0), .ref q2, .int (0), .ref q3, .ref q4, .null, .null, .null, .null, .null, .null]))) q5 (.inl (k 0, 30, .inl (fun _ => 0)))) h (.inr (9, [.int (0), .ref q1, .int (0), .ref q2, .int (0), .ref q3, .ref q4, .ref q5, .null, .null, .null, .null, .null]))) q6 (.inl (k 0, 30, .inl (fun _ => 0)))) h (.inr (9, [.int (0), .ref q1, .int (0), .ref q2, .int (0), .ref q3, .ref q4, .ref q5, .ref q6, .null, .null, .null, .null]))) q7 (.inl (k 0, 30, .inl (fun _ => 0)))) h (.inr (9, [.int (0), .ref q1, .int (0), .ref q2, .int (0), .ref q3, .ref q4, .ref q5, .ref q6, .ref q7, .null, .null, .null]))) q8 (.inl (k 1, 30, .inl (fun _ => 0)))) h (.inr (9, [.int (0), .ref q1, .int (0), .ref q2, .int (0), .ref q3, .ref q4, .ref q5, .ref q6, .ref q7, .ref q8, .null, .null]))) q9 (.inl (k 0, 750, .inl (fun _ => 0))))) H := hP
  have hD : va_D A (va_pl (L ++ [q1] ++ [q2] ++ [q3] ++ [q4] ++ [q5] ++ [q6] ++ [q7] ++ [q8] ++ [q9]) (va_up (va_up (va_up (va_up (va_up (va_up (va_up (va_up (va_up (va_up (va_up (va_up (va_up (va_up (va_up (va_up (va_up f q1 (.inl (k 0, 24, .inl (fun _ => 0)))) h (.inr (9, [.int (0), .ref q1, .int (0), .null, .int (0), .null, .null, .null, .null, .null, .null, .null, .null]))) q2 (.inl (k 0, 100, .inl (fun _ => 0)))) h (.inr (9, [.int (0), .ref q1, .int (0), .ref q2, .int (0), .null, .null, .null, .null, .null, .null, .null, .null]))) q3 (.inl (k 0, 30, .inl (fun _ => 0)))) h (.inr (9, [.int (0), .ref q1, .int (0), .ref q2, .int (0), .ref q3, .null, .null, .null, .null, .null, .null, .null]))) q4 (.inl (k 0, 30, .inl (fun _ => 0)))) h (.inr (9, [.int (0), .ref q1, .int (0), .ref q2, .int (0), .ref q3, .ref q4, .null, .null, .null, .null, .null, .null]))) q5 (.inl (k 0, 30, .inl (fun _ => 0)))) h (.inr (9, [.int (0), .ref q1, .int (0), .ref q2, .int (0), .ref q3, .ref q4, .ref q5, .null, .null, .null, .null, .null]))) q6 (.inl (k 0, 30, .inl (fun _ => 0)))) h (.inr (9, [.int (0), .ref q1, .int (0), .ref q2, .int (0), .ref q3, .ref q4, .ref q5, .ref q6, .null, .null, .null, .null]))) q7 (.inl (k 0, 30, .inl (fun _ => 0)))) h (.inr (9, [.int (0), .ref q1, .int (0), .ref q2, .int (0), .ref q3, .ref q4, .ref q5, .ref q6, .ref q7, .null, .null, .null]))) q8 (.inl (k 1, 30, .inl (fun _ => 0)))) h (.inr (9, [.int (0), .ref q1, .int (0), .ref q2, .int (0), .ref q3, .ref q4, .ref q5, .ref q6, .ref q7, .ref q8, .null, .null]))) q9 (.inl (k 0, 750, .inl (fun _ => 0))))) := hD
  refine pl_putF (ci := 9) (v := .ref q9) (ty := .array .int) (C := RX10) (T := TX10) (N := 13) hx hb hts hi_X10 tyX10 tyX10_ok nmX10 hown hK hP hD hS (List.mem_append_left _ (List.mem_append_left _ (List.mem_append_left _ (List.mem_append_left _ (List.mem_append_left _ (List.mem_append_left _ (List.mem_append_left _ (List.mem_append_left _ (List.mem_append_left _ hh))))))))) ((va_up_ne _ _ (ne_new (List.mem_append_left _ (List.mem_append_left _ (List.mem_append_left _ (List.mem_append_left _ (List.mem_append_left _ (List.mem_append_left _ (List.mem_append_left _ (List.mem_append_left _ hh)))))))) hq9)).trans (va_up_self _ _ _)) rfl 11 (by decide) hw_13 (fun _ h9 => h9) rfl hin9 rfl (by decide +kernel) rfl rfl (Nat.le_of_ble_eq_true rfl) dX10_init_74 (fun H locs hP hD hS => ?_)
  have hP : va_P D vwCl (va_pl (L ++ [q1] ++ [q2] ++ [q3] ++ [q4] ++ [q5] ++ [q6] ++ [q7] ++ [q8] ++ [q9]) (va_up (va_up (va_up (va_up (va_up (va_up (va_up (va_up (va_up (va_up (va_up (va_up (va_up (va_up (va_up (va_up (va_up (va_up f q1 (.inl (k 0, 24, .inl (fun _ => 0)))) h (.inr (9, [.int (0), .ref q1, .int (0), .null, .int (0), .null, .null, .null, .null, .null, .null, .null, .null]))) q2 (.inl (k 0, 100, .inl (fun _ => 0)))) h (.inr (9, [.int (0), .ref q1, .int (0), .ref q2, .int (0), .null, .null, .null, .null, .null, .null, .null, .null]))) q3 (.inl (k 0, 30, .inl (fun _ => 0)))) h (.inr (9, [.int (0), .ref q1, .int (0), .ref q2, .int (0), .ref q3, .null, .null, .null, .null, .null, .null, .null]))) q4 (.inl (k 0, 30, .inl (fun _ => 0)))) h (.inr (9, [.int (0), .ref q1, .int (0), .ref q2, .int (0), .ref q3, .ref q4, .null, .null, .null, .null, .null, .null]))) q5 (.inl (k 0, 30, .inl (fun _ => 0)))) h (.inr (9, [.int (0), .ref q1, .int (0), .ref q2, .int (0), .ref q3, .ref q4, .ref q5, .null, .null, .null, .null, .null]))) q6 (.inl (k 0, 30, .inl (fun _ => 0)))) h (.inr (9, [.int (0), .ref q1, .int (0), .ref q2, .int (0), .ref q3, .ref q4, .ref q5, .ref q6, .null, .null, .null, .null]))) q7 (.inl (k 0, 30, .inl (fun _ => 0)))) h (.inr (9, [.int (0), .ref q1, .int (0), .ref q2, .int (0), .ref q3, .ref q4, .ref q5, .ref q6, .ref q7, .null, .null, .null]))) q8 (.inl (k 1, 30, .inl (fun _ => 0)))) h (.inr (9, [.int (0), .ref q1, .int (0), .ref q2, .int (0), .ref q3, .ref q4, .ref q5, .ref q6, .ref q7, .ref q8, .null, .null]))) q9 (.inl (k 0, 750, .inl (fun _ => 0)))) h (.inr (9, [.int (0), .ref q1, .int (0), .ref q2, .int (0), .ref q3, .ref q4, .ref q5, .ref q6, .ref q7, .ref q8, .ref q9, .null])))) H := hP
  have hD : va_D A (va_pl (L ++ [q1] ++ [q2] ++ [q3] ++ [q4] ++ [q5] ++ [q6] ++ [q7] ++ [q8] ++ [q9]) (va_up (va_up (va_up (va_up (va_up (va_up (va_up (va_up (va_up (va_up (va_up (va_up (va_up (va_up (va_up (va_up (va_up (va_up f q1 (.inl (k 0, 24, .inl (fun _ => 0)))) h (.inr (9, [.int (0), .ref q1, .int (0), .null, .int (0), .null, .null, .null, .null, .null, .null, .null, .null]))) q2 (.inl (k 0, 100, .inl (fun _ => 0)))) h (.inr (9, [.int (0), .ref q1, .int (0), .ref q2, .int (0), .null, .null, .null, .null, .null, .null, .null, .null]))) q3 (.inl (k 0, 30, .inl (fun _ => 0)))) h (.inr (9, [.int (0), .ref q1, .int (0), .ref q2, .int (0), .ref q3, .null, .null, .null, .null, .null, .null, .null]))) q4 (.inl (k 0, 30, .inl (fun _ => 0)))) h (.inr (9, [.int (0), .ref q1, .int (0), .ref q2, .int (0), .ref q3, .ref q4, .null, .null, .null, .null, .null, .null]))) q5 (.inl (k 0, 30, .inl (fun _ => 0)))) h (.inr (9, [.int (0), .ref q1, .int (0), .ref q2, .int (0), .ref q3, .ref q4, .ref q5, .null, .null, .null, .null, .null]))) q6 (.inl (k 0, 30, .inl (fun _ => 0)))) h (.inr (9, [.int (0), .ref q1, .int (0), .ref q2, .int (0), .ref q3, .ref q4, .ref q5, .ref q6, .null, .null, .null, .null]))) q7 (.inl (k 0, 30, .inl (fun _ => 0)))) h (.inr (9, [.int (0), .ref q1, .int (0), .ref q2, .int (0), .ref q3, .ref q4, .ref q5, .ref q6, .ref q7, .null, .null, .null]))) q8 (.inl (k 1, 30, .inl (fun _ => 0)))) h (.inr (9, [.int (0), .ref q1, .int (0), .ref q2, .int (0), .ref q3, .ref q4, .ref q5, .ref q6, .ref q7, .ref q8, .null, .null]))) q9 (.inl (k 0, 750, .inl (fun _ => 0)))) h (.inr (9, [.int (0), .ref q1, .int (0), .ref q2, .int (0), .ref q3, .ref q4, .ref q5, .ref q6, .ref q7, .ref q8, .ref q9, .null])))) := hD
  refine lv_aload_n hx hb dX10_init_77 rfl (lv_at hl 0 rfl) ?_
  refine zr_bipush hx hb dX10_init_78 (by decide) ?_
  refine pl_newi hx hb hw_3 0 rfl hK hP hD hS hA 25 rfl (by decide) (Nat.le_of_ble_eq_true rfl) (Nat.le_of_ble_eq_true rfl) dX10_init_80 (fun q10 H hq10 hP hD hS => ?_)
  have hP : va_P D vwCl (va_pl (L ++ [q1] ++ [q2] ++ [q3] ++ [q4] ++ [q5] ++ [q6] ++ [q7] ++ [q8] ++ [q9] ++ [q10]) (va_up (va_up (va_up (va_up (va_up (va_up (va_up (va_up (va_up (va_up (va_up (va_up (va_up (va_up (va_up (va_up (va_up (va_up (va_up f q1 (.inl (k 0, 24, .inl (fun _ => 0)))) h (.inr (9, [.int (0), .ref q1, .int (0), .null, .int (0), .null, .null, .null, .null, .null, .null, .null, .null]))) q2 (.inl (k 0, 100, .inl (fun _ => 0)))) h (.inr (9, [.int (0), .ref q1, .int (0), .ref q2, .int (0), .null, .null, .null, .null, .null, .null, .null, .null]))) q3 (.inl (k 0, 30, .inl (fun _ => 0)))) h (.inr (9, [.int (0), .ref q1, .int (0), .ref q2, .int (0), .ref q3, .null, .null, .null, .null, .null, .null, .null]))) q4 (.inl (k 0, 30, .inl (fun _ => 0)))) h (.inr (9, [.int (0), .ref q1, .int (0), .ref q2, .int (0), .ref q3, .ref q4, .null, .null, .null, .null, .null, .null]))) q5 (.inl (k 0, 30, .inl (fun _ => 0)))) h (.inr (9, [.int (0), .ref q1, .int (0), .ref q2, .int (0), .ref q3, .ref q4, .ref q5, .null, .null, .null, .null, .null]))) q6 (.inl (k 0, 30, .inl (fun _ => 0)))) h (.inr (9, [.int (0), .ref q1, .int (0), .ref q2, .int (0), .ref q3, .ref q4, .ref q5, .ref q6, .null, .null, .null, .null]))) q7 (.inl (k 0, 30, .inl (fun _ => 0)))) h (.inr (9, [.int (0), .ref q1, .int (0), .ref q2, .int (0), .ref q3, .ref q4, .ref q5, .ref q6, .ref q7, .null, .null, .null]))) q8 (.inl (k 1, 30, .inl (fun _ => 0)))) h (.inr (9, [.int (0), .ref q1, .int (0), .ref q2, .int (0), .ref q3, .ref q4, .ref q5, .ref q6, .ref q7, .ref q8, .null, .null]))) q9 (.inl (k 0, 750, .inl (fun _ => 0)))) h (.inr (9, [.int (0), .ref q1, .int (0), .ref q2, .int (0), .ref q3, .ref q4, .ref q5, .ref q6, .ref q7, .ref q8, .ref q9, .null]))) q10 (.inl (k 0, 25, .inl (fun _ => 0))))) H := hP
  have hD : va_D A (va_pl (L ++ [q1] ++ [q2] ++ [q3] ++ [q4] ++ [q5] ++ [q6] ++ [q7] ++ [q8] ++ [q9] ++ [q10]) (va_up (va_up (va_up (va_up (va_up (va_up (va_up (va_up (va_up (va_up (va_up (va_up (va_up (va_up (va_up (va_up (va_up (va_up (va_up f q1 (.inl (k 0, 24, .inl (fun _ => 0)))) h (.inr (9, [.int (0), .ref q1, .int (0), .null, .int (0), .null, .null, .null, .null, .null, .null, .null, .null]))) q2 (.inl (k 0, 100, .inl (fun _ => 0)))) h (.inr (9, [.int (0), .ref q1, .int (0), .ref q2, .int (0), .null, .null, .null, .null, .null, .null, .null, .null]))) q3 (.inl (k 0, 30, .inl (fun _ => 0)))) h (.inr (9, [.int (0), .ref q1, .int (0), .ref q2, .int (0), .ref q3, .null, .null, .null, .null, .null, .null, .null]))) q4 (.inl (k 0, 30, .inl (fun _ => 0)))) h (.inr (9, [.int (0), .ref q1, .int (0), .ref q2, .int (0), .ref q3, .ref q4, .null, .null, .null, .null, .null, .null]))) q5 (.inl (k 0, 30, .inl (fun _ => 0)))) h (.inr (9, [.int (0), .ref q1, .int (0), .ref q2, .int (0), .ref q3, .ref q4, .ref q5, .null, .null, .null, .null, .null]))) q6 (.inl (k 0, 30, .inl (fun _ => 0)))) h (.inr (9, [.int (0), .ref q1, .int (0), .ref q2, .int (0), .ref q3, .ref q4, .ref q5, .ref q6, .null, .null, .null, .null]))) q7 (.inl (k 0, 30, .inl (fun _ => 0)))) h (.inr (9, [.int (0), .ref q1, .int (0), .ref q2, .int (0), .ref q3, .ref q4, .ref q5, .ref q6, .ref q7, .null, .null, .null]))) q8 (.inl (k 1, 30, .inl (fun _ => 0)))) h (.inr (9, [.int (0), .ref q1, .int (0), .ref q2, .int (0), .ref q3, .ref q4, .ref q5, .ref q6, .ref q7, .ref q8, .null, .null]))) q9 (.inl (k 0, 750, .inl (fun _ => 0)))) h (.inr (9, [.int (0), .ref q1, .int (0), .ref q2, .int (0), .ref q3, .ref q4, .ref q5, .ref q6, .ref q7, .ref q8, .ref q9, .null]))) q10 (.inl (k 0, 25, .inl (fun _ => 0))))) := hD
  refine pl_putF (ci := 9) (v := .ref q10) (ty := .array .int) (C := RX10) (T := TX10) (N := 13) hx hb hts hi_X10 tyX10 tyX10_ok nmX10 hown hK hP hD hS (List.mem_append_left _ (List.mem_append_left _ (List.mem_append_left _ (List.mem_append_left _ (List.mem_append_left _ (List.mem_append_left _ (List.mem_append_left _ (List.mem_append_left _ (List.mem_append_left _ (List.mem_append_left _ hh)))))))))) ((va_up_ne _ _ (ne_new (List.mem_append_left _ (List.mem_append_left _ (List.mem_append_left _ (List.mem_append_left _ (List.mem_append_left _ (List.mem_append_left _ (List.mem_append_left _ (List.mem_append_left _ (List.mem_append_left _ hh))))))))) hq10)).trans (va_up_self _ _ _)) rfl 12 (by decide) hw_14 (fun _ h9 => h9) rfl hin9 rfl (by decide +kernel) rfl rfl (Nat.le_of_ble_eq_true rfl) dX10_init_82 (fun H locs hP hD hS => ?_)
  have hP : va_P D vwCl (va_pl (L ++ [q1] ++ [q2] ++ [q3] ++ [q4] ++ [q5] ++ [q6] ++ [q7] ++ [q8] ++ [q9] ++ [q10]) (va_up (va_up (va_up (va_up (va_up (va_up (va_up (va_up (va_up (va_up (va_up (va_up (va_up (va_up (va_up (va_up (va_up (va_up (va_up (va_up f q1 (.inl (k 0, 24, .inl (fun _ => 0)))) h (.inr (9, [.int (0), .ref q1, .int (0), .null, .int (0), .null, .null, .null, .null, .null, .null, .null, .null]))) q2 (.inl (k 0, 100, .inl (fun _ => 0)))) h (.inr (9, [.int (0), .ref q1, .int (0), .ref q2, .int (0), .null, .null, .null, .null, .null, .null, .null, .null]))) q3 (.inl (k 0, 30, .inl (fun _ => 0)))) h (.inr (9, [.int (0), .ref q1, .int (0), .ref q2, .int (0), .ref q3, .null, .null, .null, .null, .null, .null, .null]))) q4 (.inl (k 0, 30, .inl (fun _ => 0)))) h (.inr (9, [.int (0), .ref q1, .int (0), .ref q2, .int (0), .ref q3, .ref q4, .null, .null, .null, .null, .null, .null]))) q5 (.inl (k 0, 30, .inl (fun _ => 0)))) h (.inr (9, [.int (0), .ref q1, .int (0), .ref q2, .int (0), .ref q3, .ref q4, .ref q5, .null, .null, .null, .null, .null]))) q6 (.inl (k 0, 30, .inl (fun _ => 0)))) h (.inr (9, [.int (0), .ref q1, .int (0), .ref q2, .int (0), .ref q3, .ref q4, .ref q5, .ref q6, .null, .null, .null, .null]))) q7 (.inl (k 0, 30, .inl (fun _ => 0)))) h (.inr (9, [.int (0), .ref q1, .int (0), .ref q2, .int (0), .ref q3, .ref q4, .ref q5, .ref q6, .ref q7, .null, .null, .null]))) q8 (.inl (k 1, 30, .inl (fun _ => 0)))) h (.inr (9, [.int (0), .ref q1, .int (0), .ref q2, .int (0), .ref q3, .ref q4, .ref q5, .ref q6, .ref q7, .ref q8, .null, .null]))) q9 (.inl (k 0, 750, .inl (fun _ => 0)))) h (.inr (9, [.int (0), .ref q1, .int (0), .ref q2, .int (0), .ref q3, .ref q4, .ref q5, .ref q6, .ref q7, .ref q8, .ref q9, .null]))) q10 (.inl (k 0, 25, .inl (fun _ => 0)))) h (.inr (9, [.int (0), .ref q1, .int (0), .ref q2, .int (0), .ref q3, .ref q4, .ref q5, .ref q6, .ref q7, .ref q8, .ref q9, .ref q10])))) H := hP
  have hD : va_D A (va_pl (L ++ [q1] ++ [q2] ++ [q3] ++ [q4] ++ [q5] ++ [q6] ++ [q7] ++ [q8] ++ [q9] ++ [q10]) (va_up (va_up (va_up (va_up (va_up (va_up (va_up (va_up (va_up (va_up (va_up (va_up (va_up (va_up (va_up (va_up (va_up (va_up (va_up (va_up f q1 (.inl (k 0, 24, .inl (fun _ => 0)))) h (.inr (9, [.int (0), .ref q1, .int (0), .null, .int (0), .null, .null, .null, .null, .null, .null, .null, .null]))) q2 (.inl (k 0, 100, .inl (fun _ => 0)))) h (.inr (9, [.int (0), .ref q1, .int (0), .ref q2, .int (0), .null, .null, .null, .null, .null, .null, .null, .null]))) q3 (.inl (k 0, 30, .inl (fun _ => 0)))) h (.inr (9, [.int (0), .ref q1, .int (0), .ref q2, .int (0), .ref q3, .null, .null, .null, .null, .null, .null, .null]))) q4 (.inl (k 0, 30, .inl (fun _ => 0)))) h (.inr (9, [.int (0), .ref q1, .int (0), .ref q2, .int (0), .ref q3, .ref q4, .null, .null, .null, .null, .null, .null]))) q5 (.inl (k 0, 30, .inl (fun _ => 0)))) h (.inr (9, [.int (0), .ref q1, .int (0), .ref q2, .int (0), .ref q3, .ref q4, .ref q5, .null, .null, .null, .null, .null]))) q6 (.inl (k 0, 30, .inl (fun _ => 0)))) h (.inr (9, [.int (0), .ref q1, .int (0), .ref q2, .int (0), .ref q3, .ref q4, .ref q5, .ref q6, .null, .null, .null, .null]))) q7 (.inl (k 0, 30, .inl (fun _ => 0)))) h (.inr (9, [.int (0), .ref q1, .int (0), .ref q2, .int (0), .ref q3, .ref q4, .ref q5, .ref q6, .ref q7, .null, .null, .null]))) q8 (.inl (k 1, 30, .inl (fun _ => 0)))) h (.inr (9, [.int (0), .ref q1, .int (0), .ref q2, .int (0), .ref q3, .ref q4, .ref q5, .ref q6, .ref q7, .ref q8, .null, .null]))) q9 (.inl (k 0, 750, .inl (fun _ => 0)))) h (.inr (9, [.int (0), .ref q1, .int (0), .ref q2, .int (0), .ref q3, .ref q4, .ref q5, .ref q6, .ref q7, .ref q8, .ref q9, .null]))) q10 (.inl (k 0, 25, .inl (fun _ => 0)))) h (.inr (9, [.int (0), .ref q1, .int (0), .ref q2, .int (0), .ref q3, .ref q4, .ref q5, .ref q6, .ref q7, .ref q8, .ref q9, .ref q10])))) := hD
  rw [hQ]
  exact pc_vret hx hb hrt hP (by rw [← hAd]; exact hD) (by rw [← hAd]; exact hS) (⟨q1, hq1, q2, hq2, q3, hq3, q4, hq4, q5, hq5, q6, hq6, q7, hq7, q8, hq8, q9, hq9, q10, hq10, _, rfl, (va_up_self _ _ _), ((va_up_ne _ _ (Ne.symm (ne_new hh hq1))).trans ((va_up_ne _ _ (ne_new (List.mem_append_left _ (List.mem_append_left _ (List.mem_append_left _ (List.mem_append_left _ (List.mem_append_left _ (List.mem_append_left _ (List.mem_append_left _ (List.mem_append_left _ (List.mem_append_right _ (List.mem_singleton.mpr rfl)))))))))) hq10)).trans ((va_up_ne _ _ (Ne.symm (ne_new hh hq1))).trans ((va_up_ne _ _ (ne_new (List.mem_append_left _ (List.mem_append_left _ (List.mem_append_left _ (List.mem_append_left _ (List.mem_append_left _ (List.mem_append_left _ (List.mem_append_left _ (List.mem_append_right _ (List.mem_singleton.mpr rfl))))))))) hq9)).trans ((va_up_ne _ _ (Ne.symm (ne_new hh hq1))).trans ((va_up_ne _ _ (ne_new (List.mem_append_left _ (List.mem_append_left _ (List.mem_append_left _ (List.mem_append_left _ (List.mem_append_left _ (List.mem_append_left _ (List.mem_append_right _ (List.mem_singleton.mpr rfl)))))))) hq8)).trans ((va_up_ne _ _ (Ne.symm (ne_new hh hq1))).trans ((va_up_ne _ _ (ne_new (List.mem_append_left _ (List.mem_append_left _ (List.mem_append_left _ (List.mem_append_left _ (List.mem_append_left _ (List.mem_append_right _ (List.mem_singleton.mpr rfl))))))) hq7)).trans ((va_up_ne _ _ (Ne.symm (ne_new hh hq1))).trans ((va_up_ne _ _ (ne_new (List.mem_append_left _ (List.mem_append_left _ (List.mem_append_left _ (List.mem_append_left _ (List.mem_append_right _ (List.mem_singleton.mpr rfl)))))) hq6)).trans ((va_up_ne _ _ (Ne.symm (ne_new hh hq1))).trans ((va_up_ne _ _ (ne_new (List.mem_append_left _ (List.mem_append_left _ (List.mem_append_left _ (List.mem_append_right _ (List.mem_singleton.mpr rfl))))) hq5)).trans ((va_up_ne _ _ (Ne.symm (ne_new hh hq1))).trans ((va_up_ne _ _ (ne_new (List.mem_append_left _ (List.mem_append_left _ (List.mem_append_right _ (List.mem_singleton.mpr rfl)))) hq4)).trans ((va_up_ne _ _ (Ne.symm (ne_new hh hq1))).trans ((va_up_ne _ _ (ne_new (List.mem_append_left _ (List.mem_append_right _ (List.mem_singleton.mpr rfl))) hq3)).trans ((va_up_ne _ _ (Ne.symm (ne_new hh hq1))).trans ((va_up_ne _ _ (ne_new (List.mem_append_right _ (List.mem_singleton.mpr rfl)) hq2)).trans ((va_up_ne _ _ (Ne.symm (ne_new hh hq1))).trans (va_up_self _ _ _)))))))))))))))))))), ((va_up_ne _ _ (Ne.symm (ne_new (List.mem_append_left _ hh) hq2))).trans ((va_up_ne _ _ (ne_new (List.mem_append_left _ (List.mem_append_left _ (List.mem_append_left _ (List.mem_append_left _ (List.mem_append_left _ (List.mem_append_left _ (List.mem_append_left _ (List.mem_append_right _ (List.mem_singleton.mpr rfl))))))))) hq10)).trans ((va_up_ne _ _ (Ne.symm (ne_new (List.mem_append_left _ hh) hq2))).trans ((va_up_ne _ _ (ne_new (List.mem_append_left _ (List.mem_append_left _ (List.mem_append_left _ (List.mem_append_left _ (List.mem_append_left _ (List.mem_append_left _ (List.mem_append_right _ (List.mem_singleton.mpr rfl)))))))) hq9)).trans ((va_up_ne _ _ (Ne.symm (ne_new (List.mem_append_left _ hh) hq2))).trans ((va_up_ne _ _ (ne_new (List.mem_append_left _ (List.mem_append_left _ (List.mem_append_left _ (List.mem_append_left _ (List.mem_append_left _ (List.mem_append_right _ (List.mem_singleton.mpr rfl))))))) hq8)).trans ((va_up_ne _ _ (Ne.symm (ne_new (List.mem_append_left _ hh) hq2))).trans ((va_up_ne _ _ (ne_new (List.mem_append_left _ (List.mem_append_left _ (List.mem_append_left _ (List.mem_append_left _ (List.mem_append_right _ (List.mem_singleton.mpr rfl)))))) hq7)).trans ((va_up_ne _ _ (Ne.symm (ne_new (List.mem_append_left _ hh) hq2))).trans ((va_up_ne _ _ (ne_new (List.mem_append_left _ (List.mem_append_left _ (List.mem_append_left _ (List.mem_append_right _ (List.mem_singleton.mpr rfl))))) hq6)).trans ((va_up_ne _ _ (Ne.symm (ne_new (List.mem_append_left _ hh) hq2))).trans ((va_up_ne _ _ (ne_new (List.mem_append_left _ (List.mem_append_left _ (List.mem_append_right _ (List.mem_singleton.mpr rfl)))) hq5)).trans ((va_up_ne _ _ (Ne.symm (ne_new (List.mem_append_left _ hh) hq2))).trans ((va_up_ne _ _ (ne_new (List.mem_append_left _ (List.mem_append_right _ (List.mem_singleton.mpr rfl))) hq4)).trans ((va_up_ne _ _ (Ne.symm (ne_new (List.mem_append_left _ hh) hq2))).trans ((va_up_ne _ _ (ne_new (List.mem_append_right _ (List.mem_singleton.mpr rfl)) hq3)).trans ((va_up_ne _ _ (Ne.symm (ne_new (List.mem_append_left _ hh) hq2))).trans (va_up_self _ _ _)))))))))))))))))), ((va_up_ne _ _ (Ne.symm (ne_new (List.mem_append_left _ (List.mem_append_left _ hh)) hq3))).trans ((va_up_ne _ _ (ne_new (List.mem_append_left _ (List.mem_append_left _ (List.mem_append_left _ (List.mem_append_left _ (List.mem_append_left _ (List.mem_append_left _ (List.mem_append_right _ (List.mem_singleton.mpr rfl)))))))) hq10)).trans ((va_up_ne _ _ (Ne.symm (ne_new (List.mem_append_left _ (List.mem_append_left _ hh)) hq3))).trans ((va_up_ne _ _ (ne_new (List.mem_append_left _ (List.mem_append_left _ (List.mem_append_left _ (List.mem_append_left _ (List.mem_append_left _ (List.mem_append_right _ (List.mem_singleton.mpr rfl))))))) hq9)).trans ((va_up_ne _ _ (Ne.symm (ne_new (List.mem_append_left _ (List.mem_append_left _ hh)) hq3))).trans ((va_up_ne _ _ (ne_new (List.mem_append_left _ (List.mem_append_left _ (List.mem_append_left _ (List.mem_append_left _ (List.mem_append_right _ (List.mem_singleton.mpr rfl)))))) hq8)).trans ((va_up_ne _ _ (Ne.symm (ne_new (List.mem_append_left _ (List.mem_append_left _ hh)) hq3))).trans ((va_up_ne _ _ (ne_new (List.mem_append_left _ (List.mem_append_left _ (List.mem_append_left _ (List.mem_append_right _ (List.mem_singleton.mpr rfl))))) hq7)).trans ((va_up_ne _ _ (Ne.symm (ne_new (List.mem_append_left _ (List.mem_append_left _ hh)) hq3))).trans ((va_up_ne _ _ (ne_new (List.mem_append_left _ (List.mem_append_left _ (List.mem_append_right _ (List.mem_singleton.mpr rfl)))) hq6)).trans ((va_up_ne _ _ (Ne.symm (ne_new (List.mem_append_left _ (List.mem_append_left _ hh)) hq3))).trans ((va_up_ne _ _ (ne_new (List.mem_append_left _ (List.mem_append_right _ (List.mem_singleton.mpr rfl))) hq5)).trans ((va_up_ne _ _ (Ne.symm (ne_new (List.mem_append_left _ (List.mem_append_left _ hh)) hq3))).trans ((va_up_ne _ _ (ne_new (List.mem_append_right _ (List.mem_singleton.mpr rfl)) hq4)).trans ((va_up_ne _ _ (Ne.symm (ne_new (List.mem_append_left _ (List.mem_append_left _ hh)) hq3))).trans (va_up_self _ _ _)))))))))))))))), ((va_up_ne _ _ (Ne.symm (ne_new (List.mem_append_left _ (List.mem_append_left _ (List.mem_append_left _ hh))) hq4))).trans ((va_up_ne _ _ (ne_new (List.mem_append_left _ (List.mem_append_left _ (List.mem_append_left _ (List.mem_append_left _ (List.mem_append_left _ (List.mem_append_right _ (List.mem_singleton.mpr rfl))))))) hq10)).trans ((va_up_ne _ _ (Ne.symm (ne_new (List.mem_append_left _ (List.mem_append_left _ (List.mem_append_left _ hh))) hq4))).trans ((va_up_ne _ _ (ne_new (List.mem_append_left _ (List.mem_append_left _ (List.mem_append_left _ (List.mem_append_left _ (List.mem_append_right _ (List.mem_singleton.mpr rfl)))))) hq9)).trans ((va_up_ne _ _ (Ne.symm (ne_new (List.mem_append_left _ (List.mem_append_left _ (List.mem_append_left _ hh))) hq4))).trans ((va_up_ne _ _ (ne_new (List.mem_append_left _ (List.mem_append_left _ (List.mem_append_left _ (List.mem_append_right _ (List.mem_singleton.mpr rfl))))) hq8)).trans ((va_up_ne _ _ (Ne.symm (ne_new (List.mem_append_left _ (List.mem_append_left _ (List.mem_append_left _ hh))) hq4))).trans ((va_up_ne _ _ (ne_new (List.mem_append_left _ (List.mem_append_left _ (List.mem_append_right _ (List.mem_singleton.mpr rfl)))) hq7)).trans ((va_up_ne _ _ (Ne.symm (ne_new (List.mem_append_left _ (List.mem_append_left _ (List.mem_append_left _ hh))) hq4))).trans ((va_up_ne _ _ (ne_new (List.mem_append_left _ (List.mem_append_right _ (List.mem_singleton.mpr rfl))) hq6)).trans ((va_up_ne _ _ (Ne.symm (ne_new (List.mem_append_left _ (List.mem_append_left _ (List.mem_append_left _ hh))) hq4))).trans ((va_up_ne _ _ (ne_new (List.mem_append_right _ (List.mem_singleton.mpr rfl)) hq5)).trans ((va_up_ne _ _ (Ne.symm (ne_new (List.mem_append_left _ (List.mem_append_left _ (List.mem_append_left _ hh))) hq4))).trans (va_up_self _ _ _)))))))))))))), ((va_up_ne _ _ (Ne.symm (ne_new (List.mem_append_left _ (List.mem_append_left _ (List.mem_append_left _ (List.mem_append_left _ hh)))) hq5))).trans ((va_up_ne _ _ (ne_new (List.mem_append_left _ (List.mem_append_left _ (List.mem_append_left _ (List.mem_append_left _ (List.mem_append_right _ (List.mem_singleton.mpr rfl)))))) hq10)).trans ((va_up_ne _ _ (Ne.symm (ne_new (List.mem_append_left _ (List.mem_append_left _ (List.mem_append_left _ (List.mem_append_left _ hh)))) hq5))).trans ((va_up_ne _ _ (ne_new (List.mem_append_left _ (List.mem_append_left _ (List.mem_append_left _ (List.mem_append_right _ (List.mem_singleton.mpr rfl))))) hq9)).trans ((va_up_ne _ _ (Ne.symm (ne_new (List.mem_append_left _ (List.mem_append_left _ (List.mem_append_left _ (List.mem_append_left _ hh)))) hq5))).trans ((va_up_ne _ _ (ne_new (List.mem_append_left _ (List.mem_append_left _ (List.mem_append_right _ (List.mem_singleton.mpr rfl)))) hq8)).trans ((va_up_ne _ _ (Ne.symm (ne_new (List.mem_append_left _ (List.mem_append_left _ (List.mem_append_left _ (List.mem_append_left _ hh)))) hq5))).trans ((va_up_ne _ _ (ne_new (List.mem_append_left _ (List.mem_append_right _ (List.mem_singleton.mpr rfl))) hq7)).trans ((va_up_ne _ _ (Ne.symm (ne_new (List.mem_append_left _ (List.mem_append_left _ (List.mem_append_left _ (List.mem_append_left _ hh)))) hq5))).trans ((va_up_ne _ _ (ne_new (List.mem_append_right _ (List.mem_singleton.mpr rfl)) hq6)).trans ((va_up_ne _ _ (Ne.symm (ne_new (List.mem_append_left _ (List.mem_append_left _ (List.mem_append_left _ (List.mem_append_left _ hh)))) hq5))).trans (va_up_self _ _ _)))))))))))), ((va_up_ne _ _ (Ne.symm (ne_new (List.mem_append_left _ (List.mem_append_left _ (List.mem_append_left _ (List.mem_append_left _ (List.mem_append_left _ hh))))) hq6))).trans ((va_up_ne _ _ (ne_new (List.mem_append_left _ (List.mem_append_left _ (List.mem_append_left _ (List.mem_append_right _ (List.mem_singleton.mpr rfl))))) hq10)).trans ((va_up_ne _ _ (Ne.symm (ne_new (List.mem_append_left _ (List.mem_append_left _ (List.mem_append_left _ (List.mem_append_left _ (List.mem_append_left _ hh))))) hq6))).trans ((va_up_ne _ _ (ne_new (List.mem_append_left _ (List.mem_append_left _ (List.mem_append_right _ (List.mem_singleton.mpr rfl)))) hq9)).trans ((va_up_ne _ _ (Ne.symm (ne_new (List.mem_append_left _ (List.mem_append_left _ (List.mem_append_left _ (List.mem_append_left _ (List.mem_append_left _ hh))))) hq6))).trans ((va_up_ne _ _ (ne_new (List.mem_append_left _ (List.mem_append_right _ (List.mem_singleton.mpr rfl))) hq8)).trans ((va_up_ne _ _ (Ne.symm (ne_new (List.mem_append_left _ (List.mem_append_left _ (List.mem_append_left _ (List.mem_append_left _ (List.mem_append_left _ hh))))) hq6))).trans ((va_up_ne _ _ (ne_new (List.mem_append_right _ (List.mem_singleton.mpr rfl)) hq7)).trans ((va_up_ne _ _ (Ne.symm (ne_new (List.mem_append_left _ (List.mem_append_left _ (List.mem_append_left _ (List.mem_append_left _ (List.mem_append_left _ hh))))) hq6))).trans (va_up_self _ _ _)))))))))), ((va_up_ne _ _ (Ne.symm (ne_new (List.mem_append_left _ (List.mem_append_left _ (List.mem_append_left _ (List.mem_append_left _ (List.mem_append_left _ (List.mem_append_left _ hh)))))) hq7))).trans ((va_up_ne _ _ (ne_new (List.mem_append_left _ (List.mem_append_left _ (List.mem_append_right _ (List.mem_singleton.mpr rfl)))) hq10)).trans ((va_up_ne _ _ (Ne.symm (ne_new (List.mem_append_left _ (List.mem_append_left _ (List.mem_append_left _ (List.mem_append_left _ (List.mem_append_left _ (List.mem_append_left _ hh)))))) hq7))).trans ((va_up_ne _ _ (ne_new (List.mem_append_left _ (List.mem_append_right _ (List.mem_singleton.mpr rfl))) hq9)).trans ((va_up_ne _ _ (Ne.symm (ne_new (List.mem_append_left _ (List.mem_append_left _ (List.mem_append_left _ (List.mem_append_left _ (List.mem_append_left _ (List.mem_append_left _ hh)))))) hq7))).trans ((va_up_ne _ _ (ne_new (List.mem_append_right _ (List.mem_singleton.mpr rfl)) hq8)).trans ((va_up_ne _ _ (Ne.symm (ne_new (List.mem_append_left _ (List.mem_append_left _ (List.mem_append_left _ (List.mem_append_left _ (List.mem_append_left _ (List.mem_append_left _ hh)))))) hq7))).trans (va_up_self _ _ _)))))))), ((va_up_ne _ _ (Ne.symm (ne_new (List.mem_append_left _ (List.mem_append_left _ (List.mem_append_left _ (List.mem_append_left _ (List.mem_append_left _ (List.mem_append_left _ (List.mem_append_left _ hh))))))) hq8))).trans ((va_up_ne _ _ (ne_new (List.mem_append_left _ (List.mem_append_right _ (List.mem_singleton.mpr rfl))) hq10)).trans ((va_up_ne _ _ (Ne.symm (ne_new (List.mem_append_left _ (List.mem_append_left _ (List.mem_append_left _ (List.mem_append_left _ (List.mem_append_left _ (List.mem_append_left _ (List.mem_append_left _ hh))))))) hq8))).trans ((va_up_ne _ _ (ne_new (List.mem_append_right _ (List.mem_singleton.mpr rfl)) hq9)).trans ((va_up_ne _ _ (Ne.symm (ne_new (List.mem_append_left _ (List.mem_append_left _ (List.mem_append_left _ (List.mem_append_left _ (List.mem_append_left _ (List.mem_append_left _ (List.mem_append_left _ hh))))))) hq8))).trans (va_up_self _ _ _)))))), ((va_up_ne _ _ (Ne.symm (ne_new (List.mem_append_left _ (List.mem_append_left _ (List.mem_append_left _ (List.mem_append_left _ (List.mem_append_left _ (List.mem_append_left _ (List.mem_append_left _ (List.mem_append_left _ hh)))))))) hq9))).trans ((va_up_ne _ _ (ne_new (List.mem_append_right _ (List.mem_singleton.mpr rfl)) hq10)).trans ((va_up_ne _ _ (Ne.symm (ne_new (List.mem_append_left _ (List.mem_append_left _ (List.mem_append_left _ (List.mem_append_left _ (List.mem_append_left _ (List.mem_append_left _ (List.mem_append_left _ (List.mem_append_left _ hh)))))))) hq9))).trans (va_up_self _ _ _)))), ((va_up_ne _ _ (Ne.symm (ne_new (List.mem_append_left _ (List.mem_append_left _ (List.mem_append_left _ (List.mem_append_left _ (List.mem_append_left _ (List.mem_append_left _ (List.mem_append_left _ (List.mem_append_left _ (List.mem_append_left _ hh))))))))) hq10))).trans (va_up_self _ _ _))⟩) dX10_init_85 hlocks

set_option maxHeartbeats 4000000 in
set_option maxRecDepth 100000 in
theorem kX10_thrown (l : Launch) (D : va_G) (k : Nat → ClassId) (L : List Nat) (f : Nat → va_E) (a : Nat → Nat) (M : MS) (hM : mRep k L f a M) (hMC : mC M ≤ 30) (hMT : 0 ≤ mT M ∧ mT M ≤ 3) (hMN : 0 ≤ mN M ∧ mN M ≤ 24)  : Met l yX10_thrown wsX10_thrown ({ frames := 0, cells := 0, slots := 0, locals := 0 } : Room) (va_Pc [.ref (a 0)] (rPre D (tyL k) (va_pl L f))) (vp_Si (fun r9 => r9 = zI (mT M))) 0 0 (fun _ => False) := by
  refine Met.ofW (cc := cX10_thrown) (maxL := 1) (ret := (some .int)) (by decide) rfl ?_
  intro p e s m args below meth c s₁ B hml hv
  obtain ⟨rfl, hP, hC⟩ := hv
  have hK := hC.1
  have hNW := hC.2.1
  have hx := B.exec
  have hb := B.bytes
  have hrt := B.returns
  have hts := atoms_spec (ws := wsX10_thrown) B.pre
  have hown : s.vm.findClass RX10 = some m.cls := findClass_of_methodNamed B.named
  have hlocks := B.notSynchronized
  have hi_X10 : ∀ w ∈ u_ws RX10 TX10 13, w ∈ wsX10_thrown := by decide +kernel
  have hw_0 := hts (.fieldLink RX10 41 "RegionryModel" "thrown" "I") (by decide +kernel)
  have hl := lv_entry ([.ref (a 0)]) (n := 1) (Nat.le_of_ble_eq_true rfl)
  rw [lg_entry_eq]
  generalize (lg_sl ([.ref (a 0)]) ++ List.replicate (1 - (lg_sl ([.ref (a 0)])).length) Slot.unset).toArray = ls at hl ⊢
  have hl : lv_has ls 1 [(0, .ref (a 0))] := hl
  obtain ⟨Q, hQ⟩ : ∃ Q, Q = MQ below (vp_Si (fun r9 => r9 = zI (mT M))) ([.ref (a 0)] : List Value).toArray s 0 0 (fun _ => False) := ⟨_, rfl⟩
  rw [← hQ]
  refine lv_aload_n hx hb dX10_thrown_0 rfl (lv_at hl 0 rfl) ?_
  refine pl_get (ci := 9) (v := .int (zI (mT M))) (C := RX10) (T := TX10) (N := 13) hx hb hts hi_X10 hown hK hP (hM.2.2.1 0 (by decide)) hM.1 rfl 0 (by decide) hw_0 (fun _ h9 => h9) rfl dX10_thrown_1 ?_
  rw [hQ]
  exact rc_iret hx hb hrt (rfl) dX10_thrown_4 hlocks

set_option maxHeartbeats 4000000 in
set_option maxRecDepth 100000 in
theorem kX10_isNode (l : Launch) (D : va_G) (k : Nat → ClassId) (L : List Nat) (f : Nat → va_E) (a : Nat → Nat) (M : MS) (hM : mRep k L f a M) (hMC : mC M ≤ 30) (hMT : 0 ≤ mT M ∧ mT M ≤ 3) (hMN : 0 ≤ mN M ∧ mN M ≤ 24) (z : Int) (hz : -2147483648 ≤ z ∧ z < 2147483648) : Met l yX10_isNode wsX10_isNode ({ frames := 1, cells := 0, slots := 0, locals := 22 } : Room) (va_Pc [.ref (a 0), .int (zI (z))] (rPre D (tyL k) (va_pl L f))) (vp_Si (fun r9 => r9 = bI (inB z 0 ((mC M : Int) - 1)))) 0 0 (fun _ => False) := by
  refine Met.ofW (cc := cX10_isNode) (maxL := 2) (ret := (some .boolean)) (by decide) rfl ?_
  intro p e s m args below meth c s₁ B hml hv
  obtain ⟨rfl, hP, hC⟩ := hv
  have hK := hC.1
  have hNW := hC.2.1
  have hx := B.exec
  have hb := B.bytes
  have hrt := B.returns
  have hts := atoms_spec (ws := wsX10_isNode) B.pre
  have hown : s.vm.findClass RX10 = some m.cls := findClass_of_methodNamed B.named
  have hlocks := B.notSynchronized
  have hi_X10 : ∀ w ∈ u_ws RX10 TX10 13, w ∈ wsX10_isNode := by decide +kernel
  have hw_0 := hts (.fieldLink RX10 49 "RegionryModel" "nodes" "I") (by decide +kernel)
  have hl := lv_entry ([.ref (a 0), .int (zI (z))]) (n := 2) (Nat.le_of_ble_eq_true rfl)
  rw [lg_entry_eq]
  generalize (lg_sl ([.ref (a 0), .int (zI (z))]) ++ List.replicate (2 - (lg_sl ([.ref (a 0), .int (zI (z))])).length) Slot.unset).toArray = ls at hl ⊢
  have hl : lv_has ls 2 [(0, .ref (a 0)), (1, .int (zI (z)))] := hl
  obtain ⟨Q, hQ⟩ : ∃ Q, Q = MQ below (vp_Si (fun r9 => r9 = bI (inB z 0 ((mC M : Int) - 1)))) ([.ref (a 0), .int (zI (z))] : List Value).toArray s 0 0 (fun _ => False) := ⟨_, rfl⟩
  rw [← hQ]
  refine lv_iload_n hx hb dX10_isNode_0 rfl (lv_at hl 1 rfl) ?_
  refine zr_const hx hb dX10_isNode_1 ?_
  refine lv_aload_n hx hb dX10_isNode_2 rfl (lv_at hl 0 rfl) ?_
  refine pl_get (ci := 9) (v := .int (zI ((mC M : Int)))) (C := RX10) (T := TX10) (N := 13) hx hb hts hi_X10 hown hK hP (hM.2.2.1 0 (by decide)) hM.1 rfl 4 (by decide) hw_0 (fun _ h9 => h9) rfl dX10_isNode_3 ?_
  refine zr_const hx hb dX10_isNode_6 ?_
  refine zr_sub hx hb dX10_isNode_7 ?_
  refine vp_callSi (va_Run.run (va_runS (As := [.int (zI (z)), .int (zI (0)), .int (zI (((mC M : Int)) - 1))]) (rest := []) ⟨hx, hb, hml, hown, hts⟩ (kX10_in l D k L f (z) (by omega) (0) (by omega) (((mC M : Int)) - 1) (by omega)) (va_cwS 3 hts gX10_isNode_X10_in rfl rfl rfl (by decide +kernel) ⟨Nat.le_of_ble_eq_true rfl, Nat.le_of_ble_eq_true rfl⟩) (rc_preS hC hP) rfl rfl hl.1 rfl (lv_room (Nat.le_of_ble_eq_true rfl)) dX10_isNode_8 ⟨Nat.zero_le _, Nat.zero_le _⟩)) (fun r1 hr1 => ?_)
  subst hr1
  rw [hQ]
  exact rc_zret hx hb hrt (rfl) dX10_isNode_11 hlocks

set_option maxHeartbeats 4000000 in
set_option maxRecDepth 100000 in
theorem kX10_goesWell (l : Launch) (D : va_G) (k : Nat → ClassId) (L : List Nat) (f : Nat → va_E) (a : Nat → Nat) (M : MS) (hM : mRep k L f a M) (hMC : mC M ≤ 30) (hMT : 0 ≤ mT M ∧ mT M ≤ 3) (hMN : 0 ≤ mN M ∧ mN M ≤ 24) (z : Int) (hz : 0 ≤ z ∧ z ≤ 3) (n0 sz : Nat) : Met l yX10_goesWell wsX10_goesWell ({ frames := 0, cells := 0, slots := 0, locals := 0 } : Room) (va_Pc [.ref (a 0), .int (zI (z))] (pPre D (tyL k) n0 (va_pl L f) sz)) (va_Qi (fun r9 u => r9 = bI (decide (z = 0)) ∧ u = va_pl L (va_up f (a 0) (.inr (9, [.int (zI (z)), .ref (a 1), .int (zI (mN M)), .ref (a 2), .int (zI (mC M : Int)), .ref (a 3), .ref (a 4), .ref (a 5), .ref (a 6), .ref (a 7), .ref (a 8), .ref (a 9), .ref (a 10)])))) (pB D (va_pl L f) sz) (va_A (va_pl L f) sz)) 0 0 (va_A (va_pl L f) sz) := by
  refine Met.ofW (cc := cX10_goesWell) (maxL := 2) (ret := (some .boolean)) (by decide) rfl ?_
  intro p e s m args below meth c s₁ B hml hv
  obtain ⟨rfl, hsz, hn9, hP, hC, hD0⟩ := hv
  have hK := hC.1
  have hNW := hC.2.1
  have hx := B.exec
  have hb := B.bytes
  have hrt := B.returns
  have hts := atoms_spec (ws := wsX10_goesWell) B.pre
  have hown : s.vm.findClass RX10 = some m.cls := findClass_of_methodNamed B.named
  have hlocks := B.notSynchronized
  subst hsz
  obtain ⟨A, hAd⟩ : ∃ A, A = va_A (va_pl L f) s.heap.size := ⟨_, rfl⟩
  have hD := hD0.self (sz := s.heap.size)
  rw [← hAd] at hD
  have hA : ∀ q : Nat, s.heap.size ≤ q → A q := fun q h => by rw [hAd]; exact Or.inr h
  have hAn : ∀ q : Nat, A q → n0 ≤ q := fun q h => by
    rw [hAd] at h
    rcases h with ⟨k9, e9, hk9⟩ | h
    · exact hD0.2 k9 _ hk9
    · exact Nat.le_trans hn9 h
  have hS : va_S A s.heap s.heap [] := va_S.rf
  have hi_X10 : ∀ w ∈ u_ws RX10 TX10 13, w ∈ wsX10_goesWell := by decide +kernel
  have hw_0 := hts (.fieldLink RX10 41 "RegionryModel" "thrown" "I") (by decide +kernel)
  have hl := lv_entry ([.ref (a 0), .int (zI (z))]) (n := 2) (Nat.le_of_ble_eq_true rfl)
  rw [lg_entry_eq]
  generalize (lg_sl ([.ref (a 0), .int (zI (z))]) ++ List.replicate (2 - (lg_sl ([.ref (a 0), .int (zI (z))])).length) Slot.unset).toArray = ls at hl ⊢
  have hl : lv_has ls 2 [(0, .ref (a 0)), (1, .int (zI (z)))] := hl
  obtain ⟨Q, hQ⟩ : ∃ Q, Q = MQ below (va_Qi (fun r9 u => r9 = bI (decide (z = 0)) ∧ u = va_pl L (va_up f (a 0) (.inr (9, [.int (zI (z)), .ref (a 1), .int (zI (mN M)), .ref (a 2), .int (zI (mC M : Int)), .ref (a 3), .ref (a 4), .ref (a 5), .ref (a 6), .ref (a 7), .ref (a 8), .ref (a 9), .ref (a 10)])))) (pB D (va_pl L f) s.heap.size) (va_A (va_pl L f) s.heap.size)) ([.ref (a 0), .int (zI (z))] : List Value).toArray s 0 0 (va_A (va_pl L f) s.heap.size) := ⟨_, rfl⟩
  rw [← hQ]
  refine lv_aload_n hx hb dX10_goesWell_0 rfl (lv_at hl 0 rfl) ?_
  refine lv_iload_n hx hb dX10_goesWell_1 rfl (lv_at hl 1 rfl) ?_
  refine pl_put (ci := 9) (v := .int (zI (z))) (ty := .int) (C := RX10) (T := TX10) (N := 13) hx hb hts hi_X10 tyX10 tyX10_ok nmX10 hown hK hP hD hS (hM.2.2.1 0 (by decide)) hM.1 rfl 0 (by decide) hw_0 (fun _ h9 => h9) rfl (by decide +kernel) rfl rfl (Nat.le_of_ble_eq_true rfl) dX10_goesWell_2 (fun H locs hP hD hS => ?_)
  have hP : va_P D vwCl (va_pl L (va_up f (a 0) (.inr (9, [.int (zI (z)), .ref (a 1), .int (zI (mN M)), .ref (a 2), .int (zI ((mC M : Int))), .ref (a 3), .ref (a 4), .ref (a 5), .ref (a 6), .ref (a 7), .ref (a 8), .ref (a 9), .ref (a 10)])))) H := hP
  have hD : va_D A (va_pl L (va_up f (a 0) (.inr (9, [.int (zI (z)), .ref (a 1), .int (zI (mN M)), .ref (a 2), .int (zI ((mC M : Int))), .ref (a 3), .ref (a 4), .ref (a 5), .ref (a 6), .ref (a 7), .ref (a 8), .ref (a 9), .ref (a 10)])))) := hD
  refine lv_iload_n hx hb dX10_goesWell_5 rfl (lv_at hl 1 rfl) ?_
  refine zr_if_ne (tgt := 13) hx hb dX10_goesWell_6 (by decide) (by omega) (fun c1 => ?_) (fun c1 => ?_)
  · refine zr_const hx hb dX10_goesWell_13 ?_
    rw [hQ]
    refine zr_top (y := bI (decide (z = 0))) (by first | exact bI_t (decide_eq_true (by omega)) | exact bI_f (decide_eq_false (by omega))) ?_
    exact pc_zret hx hb hrt hP (by rw [← hAd]; exact hD) (by rw [← hAd]; exact hS) (⟨rfl, rfl⟩) dX10_goesWell_14 hlocks
  · refine zr_const hx hb dX10_goesWell_9 ?_
    refine lv_goto (tgt := 14) hx hb dX10_goesWell_10 (by decide) ?_
    rw [hQ]
    refine zr_top (y := bI (decide (z = 0))) (by first | exact bI_t (decide_eq_true (by omega)) | exact bI_f (decide_eq_false (by omega))) ?_
    exact pc_zret hx hb hrt hP (by rw [← hAd]; exact hD) (by rw [← hAd]; exact hS) (⟨rfl, rfl⟩) dX10_goesWell_14 hlocks

set_option maxHeartbeats 4000000 in
set_option maxRecDepth 100000 in
theorem kX10_holds (l : Launch) (D : va_G) (k : Nat → ClassId) (L : List Nat) (f : Nat → va_E) (a : Nat → Nat) (M : MS) (hM : mRep k L f a M) (hMC : mC M ≤ 30) (hMT : 0 ≤ mT M ∧ mT M ≤ 3) (hMN : 0 ≤ mN M ∧ mN M ≤ 24) (i j t : Nat) (hi : i < 30) (hj : j < 25) (ht : t < 32) : Met l yX10_holds wsX10_holds ({ frames := 0, cells := 0, slots := 0, locals := 0 } : Room) (va_Pc [.ref (a 0), .int (zI ((i : Int))), .int (zI ((j : Int))), .int (zI ((t : Int)))] (rPre D (tyL k) (va_pl L f))) (vp_Si (fun r9 => r9 = bI (bt (mA M 9 (25 * i + j)) t))) 0 0 (fun _ => False) := by
  refine Met.ofW (cc := cX10_holds) (maxL := 4) (ret := (some .boolean)) (by decide) rfl ?_
  intro p e s m args below meth c s₁ B hml hv
  obtain ⟨rfl, hP, hC⟩ := hv
  have hK := hC.1
  have hNW := hC.2.1
  have hx := B.exec
  have hb := B.bytes
  have hrt := B.returns
  have hts := atoms_spec (ws := wsX10_holds) B.pre
  have hown : s.vm.findClass RX10 = some m.cls := findClass_of_methodNamed B.named
  have hlocks := B.notSynchronized
  have hi_X10 : ∀ w ∈ u_ws RX10 TX10 13, w ∈ wsX10_holds := by decide +kernel
  have hw_0 := hts (.fieldLink RX10 35 "RegionryModel" "rows" "[I") (by decide +kernel)
  have hl := lv_entry ([.ref (a 0), .int (zI ((i : Int))), .int (zI ((j : Int))), .int (zI ((t : Int)))]) (n := 4) (Nat.le_of_ble_eq_true rfl)
  rw [lg_entry_eq]
  generalize (lg_sl ([.ref (a 0), .int (zI ((i : Int))), .int (zI ((j : Int))), .int (zI ((t : Int)))]) ++ List.replicate (4 - (lg_sl ([.ref (a 0), .int (zI ((i : Int))), .int (zI ((j : Int))), .int (zI ((t : Int)))])).length) Slot.unset).toArray = ls at hl ⊢
  have hl : lv_has ls 4 [(0, .ref (a 0)), (1, .int (zI ((i : Int)))), (2, .int (zI ((j : Int)))), (3, .int (zI ((t : Int))))] := hl
  obtain ⟨Q, hQ⟩ : ∃ Q, Q = MQ below (vp_Si (fun r9 => r9 = bI (bt (mA M 9 (25 * i + j)) t))) ([.ref (a 0), .int (zI ((i : Int))), .int (zI ((j : Int))), .int (zI ((t : Int)))] : List Value).toArray s 0 0 (fun _ => False) := ⟨_, rfl⟩
  rw [← hQ]
  refine lv_aload_n hx hb dX10_holds_0 rfl (lv_at hl 0 rfl) ?_
  refine pl_get (ci := 9) (v := .ref (a 9)) (C := RX10) (T := TX10) (N := 13) hx hb hts hi_X10 hown hK hP (hM.2.2.1 0 (by decide)) hM.1 rfl 11 (by decide) hw_0 (fun _ h9 => h9) rfl dX10_holds_1 ?_
  refine zr_bipush hx hb dX10_holds_4 (by decide) ?_
  refine lv_iload_n hx hb dX10_holds_6 rfl (lv_at hl 1 rfl) ?_
  refine zr_mul hx hb dX10_holds_7 ?_
  refine lv_iload_n hx hb dX10_holds_8 rfl (lv_at hl 2 rfl) ?_
  refine zr_add hx hb dX10_holds_9 ?_
  refine pl_iald hx hb hK hP (hM.2.2.1 9 (by decide)) 0 (show f (a 9) = .inl (k 0, 750, .inl (mA M 9)) from hM.2.1 9 (by decide) (by decide)) rfl (25 * i + j) (by omega) (by omega) (by decide) dX10_holds_10 ?_
  refine lv_iload_n hx hb dX10_holds_11 rfl (lv_at hl 3 rfl) ?_
  refine lv_ishr hx hb dX10_holds_12 ?_
  refine zr_const hx hb dX10_holds_13 ?_
  refine lv_iand hx hb dX10_holds_14 ?_
  refine zr_top (sh_bit (j := t) (by omega) (by omega)) ?_
  refine zr_const hx hb dX10_holds_15 ?_
  refine zr_icmp_ne (tgt := 23) hx hb dX10_holds_16 (by decide) (by omega) (by omega) (fun c1 => ?_) (fun c1 => ?_)
  · refine zr_const hx hb dX10_holds_23 ?_
    rw [hQ]
    refine zr_top (y := bI (bt (mA M 9 (25 * i + j)) t)) (by first | exact bI_t (by by_cases q : bt (mA M 9 (25 * i + j)) t = true <;> simp_all) | exact bI_f (by by_cases q : bt (mA M 9 (25 * i + j)) t = true <;> simp_all)) ?_
    exact rc_zret hx hb hrt (rfl) dX10_holds_24 hlocks
  · refine zr_const hx hb dX10_holds_19 ?_
    refine lv_goto (tgt := 24) hx hb dX10_holds_20 (by decide) ?_
    rw [hQ]
    refine zr_top (y := bI (bt (mA M 9 (25 * i + j)) t)) (by first | exact bI_t (by by_cases q : bt (mA M 9 (25 * i + j)) t = true <;> simp_all) | exact bI_f (by by_cases q : bt (mA M 9 (25 * i + j)) t = true <;> simp_all)) ?_
    exact rc_zret hx hb hrt (rfl) dX10_holds_24 hlocks

set_option maxHeartbeats 4000000 in
set_option maxRecDepth 100000 in
theorem kX10_length (l : Launch) (D : va_G) (k : Nat → ClassId) (L : List Nat) (f : Nat → va_E) (a : Nat → Nat) (M : MS) (hM : mRep k L f a M) (hMC : mC M ≤ 30) (hMT : 0 ≤ mT M ∧ mT M ≤ 3) (hMN : 0 ≤ mN M ∧ mN M ≤ 24)  (n0 sz : Nat) : Met l yX10_length wsX10_length ({ frames := 0, cells := 0, slots := 0, locals := 0 } : Room) (va_Pc [.ref (a 0)] (pPre D (tyL k) n0 (va_pl L f) sz)) (va_Qi (fun r9 u => r9 = zI (mN M) ∧ u = va_pl L (va_up f (a 0) (.inr (9, [.int (zI 0), .ref (a 1), .int (zI (mN M)), .ref (a 2), .int (zI (mC M : Int)), .ref (a 3), .ref (a 4), .ref (a 5), .ref (a 6), .ref (a 7), .ref (a 8), .ref (a 9), .ref (a 10)])))) (pB D (va_pl L f) sz) (va_A (va_pl L f) sz)) 0 0 (va_A (va_pl L f) sz) := by
  refine Met.ofW (cc := cX10_length) (maxL := 1) (ret := (some .int)) (by decide) rfl ?_
  intro p e s m args below meth c s₁ B hml hv
  obtain ⟨rfl, hsz, hn9, hP, hC, hD0⟩ := hv
  have hK := hC.1
  have hNW := hC.2.1
  have hx := B.exec
  have hb := B.bytes
  have hrt := B.returns
  have hts := atoms_spec (ws := wsX10_length) B.pre
  have hown : s.vm.findClass RX10 = some m.cls := findClass_of_methodNamed B.named
  have hlocks := B.notSynchronized
  subst hsz
  obtain ⟨A, hAd⟩ : ∃ A, A = va_A (va_pl L f) s.heap.size := ⟨_, rfl⟩
  have hD := hD0.self (sz := s.heap.size)
  rw [← hAd] at hD
  have hA : ∀ q : Nat, s.heap.size ≤ q → A q := fun q h => by rw [hAd]; exact Or.inr h
  have hAn : ∀ q : Nat, A q → n0 ≤ q := fun q h => by
    rw [hAd] at h
    rcases h with ⟨k9, e9, hk9⟩ | h
    · exact hD0.2 k9 _ hk9
    · exact Nat.le_trans hn9 h
  have hS : va_S A s.heap s.heap [] := va_S.rf
  have hi_X10 : ∀ w ∈ u_ws RX10 TX10 13, w ∈ wsX10_length := by decide +kernel
  have hw_0 := hts (.fieldLink RX10 41 "RegionryModel" "thrown" "I") (by decide +kernel)
  have hw_1 := hts (.fieldLink RX10 52 "RegionryModel" "length" "I") (by decide +kernel)
  have hl := lv_entry ([.ref (a 0)]) (n := 1) (Nat.le_of_ble_eq_true rfl)
  rw [lg_entry_eq]
  generalize (lg_sl ([.ref (a 0)]) ++ List.replicate (1 - (lg_sl ([.ref (a 0)])).length) Slot.unset).toArray = ls at hl ⊢
  have hl : lv_has ls 1 [(0, .ref (a 0))] := hl
  obtain ⟨Q, hQ⟩ : ∃ Q, Q = MQ below (va_Qi (fun r9 u => r9 = zI (mN M) ∧ u = va_pl L (va_up f (a 0) (.inr (9, [.int (zI 0), .ref (a 1), .int (zI (mN M)), .ref (a 2), .int (zI (mC M : Int)), .ref (a 3), .ref (a 4), .ref (a 5), .ref (a 6), .ref (a 7), .ref (a 8), .ref (a 9), .ref (a 10)])))) (pB D (va_pl L f) s.heap.size) (va_A (va_pl L f) s.heap.size)) ([.ref (a 0)] : List Value).toArray s 0 0 (va_A (va_pl L f) s.heap.size) := ⟨_, rfl⟩
  rw [← hQ]
  refine lv_aload_n hx hb dX10_length_0 rfl (lv_at hl 0 rfl) ?_
  refine zr_const hx hb dX10_length_1 ?_
  refine pl_put (ci := 9) (v := .int (zI (0))) (ty := .int) (C := RX10) (T := TX10) (N := 13) hx hb hts hi_X10 tyX10 tyX10_ok nmX10 hown hK hP hD hS (hM.2.2.1 0 (by decide)) hM.1 rfl 0 (by decide) hw_0 (fun _ h9 => h9) rfl (by decide +kernel) rfl rfl (Nat.le_of_ble_eq_true rfl) dX10_length_2 (fun H locs hP hD hS => ?_)
  have hP : va_P D vwCl (va_pl L (va_up f (a 0) (.inr (9, [.int (zI (0)), .ref (a 1), .int (zI (mN M)), .ref (a 2), .int (zI ((mC M : Int))), .ref (a 3), .ref (a 4), .ref (a 5), .ref (a 6), .ref (a 7), .ref (a 8), .ref (a 9), .ref (a 10)])))) H := hP
  have hD : va_D A (va_pl L (va_up f (a 0) (.inr (9, [.int (zI (0)), .ref (a 1), .int (zI (mN M)), .ref (a 2), .int (zI ((mC M : Int))), .ref (a 3), .ref (a 4), .ref (a 5), .ref (a 6), .ref (a 7), .ref (a 8), .ref (a 9), .ref (a 10)])))) := hD
  refine lv_aload_n hx hb dX10_length_5 rfl (lv_at hl 0 rfl) ?_
  refine pl_get (ci := 9) (v := .int (zI (mN M))) (C := RX10) (T := TX10) (N := 13) hx hb hts hi_X10 hown hK hP (hM.2.2.1 0 (by decide)) (va_up_self _ _ _) rfl 2 (by decide) hw_1 (fun _ h9 => h9) rfl dX10_length_6 ?_
  rw [hQ]
  exact pc_iret hx hb hrt hP (by rw [← hAd]; exact hD) (by rw [← hAd]; exact hS) (⟨rfl, rfl⟩) dX10_length_9 hlocks

set_option maxHeartbeats 4000000 in
set_option maxRecDepth 100000 in
theorem kX10_nodes (l : Launch) (D : va_G) (k : Nat → ClassId) (L : List Nat) (f : Nat → va_E) (a : Nat → Nat) (M : MS) (hM : mRep k L f a M) (hMC : mC M ≤ 30) (hMT : 0 ≤ mT M ∧ mT M ≤ 3) (hMN : 0 ≤ mN M ∧ mN M ≤ 24)  (n0 sz : Nat) : Met l yX10_nodes wsX10_nodes ({ frames := 0, cells := 0, slots := 0, locals := 0 } : Room) (va_Pc [.ref (a 0)] (pPre D (tyL k) n0 (va_pl L f) sz)) (va_Qi (fun r9 u => r9 = zI (mC M : Int) ∧ u = va_pl L (va_up f (a 0) (.inr (9, [.int (zI 0), .ref (a 1), .int (zI (mN M)), .ref (a 2), .int (zI (mC M : Int)), .ref (a 3), .ref (a 4), .ref (a 5), .ref (a 6), .ref (a 7), .ref (a 8), .ref (a 9), .ref (a 10)])))) (pB D (va_pl L f) sz) (va_A (va_pl L f) sz)) 0 0 (va_A (va_pl L f) sz) := by
  refine Met.ofW (cc := cX10_nodes) (maxL := 1) (ret := (some .int)) (by decide) rfl ?_
  intro p e s m args below meth c s₁ B hml hv
  obtain ⟨rfl, hsz, hn9, hP, hC, hD0⟩ := hv
  have hK := hC.1
  have hNW := hC.2.1
  have hx := B.exec
  have hb := B.bytes
  have hrt := B.returns
  have hts := atoms_spec (ws := wsX10_nodes) B.pre
  have hown : s.vm.findClass RX10 = some m.cls := findClass_of_methodNamed B.named
  have hlocks := B.notSynchronized
  subst hsz
  obtain ⟨A, hAd⟩ : ∃ A, A = va_A (va_pl L f) s.heap.size := ⟨_, rfl⟩
  have hD := hD0.self (sz := s.heap.size)
  rw [← hAd] at hD
  have hA : ∀ q : Nat, s.heap.size ≤ q → A q := fun q h => by rw [hAd]; exact Or.inr h
  have hAn : ∀ q : Nat, A q → n0 ≤ q := fun q h => by
    rw [hAd] at h
    rcases h with ⟨k9, e9, hk9⟩ | h
    · exact hD0.2 k9 _ hk9
    · exact Nat.le_trans hn9 h
  have hS : va_S A s.heap s.heap [] := va_S.rf
  have hi_X10 : ∀ w ∈ u_ws RX10 TX10 13, w ∈ wsX10_nodes := by decide +kernel
  have hw_0 := hts (.fieldLink RX10 41 "RegionryModel" "thrown" "I") (by decide +kernel)
  have hw_1 := hts (.fieldLink RX10 49 "RegionryModel" "nodes" "I") (by decide +kernel)
  have hl := lv_entry ([.ref (a 0)]) (n := 1) (Nat.le_of_ble_eq_true rfl)
  rw [lg_entry_eq]
  generalize (lg_sl ([.ref (a 0)]) ++ List.replicate (1 - (lg_sl ([.ref (a 0)])).length) Slot.unset).toArray = ls at hl ⊢
  have hl : lv_has ls 1 [(0, .ref (a 0))] := hl
  obtain ⟨Q, hQ⟩ : ∃ Q, Q = MQ below (va_Qi (fun r9 u => r9 = zI (mC M : Int) ∧ u = va_pl L (va_up f (a 0) (.inr (9, [.int (zI 0), .ref (a 1), .int (zI (mN M)), .ref (a 2), .int (zI (mC M : Int)), .ref (a 3), .ref (a 4), .ref (a 5), .ref (a 6), .ref (a 7), .ref (a 8), .ref (a 9), .ref (a 10)])))) (pB D (va_pl L f) s.heap.size) (va_A (va_pl L f) s.heap.size)) ([.ref (a 0)] : List Value).toArray s 0 0 (va_A (va_pl L f) s.heap.size) := ⟨_, rfl⟩
  rw [← hQ]
  refine lv_aload_n hx hb dX10_nodes_0 rfl (lv_at hl 0 rfl) ?_
  refine zr_const hx hb dX10_nodes_1 ?_
  refine pl_put (ci := 9) (v := .int (zI (0))) (ty := .int) (C := RX10) (T := TX10) (N := 13) hx hb hts hi_X10 tyX10 tyX10_ok nmX10 hown hK hP hD hS (hM.2.2.1 0 (by decide)) hM.1 rfl 0 (by decide) hw_0 (fun _ h9 => h9) rfl (by decide +kernel) rfl rfl (Nat.le_of_ble_eq_true rfl) dX10_nodes_2 (fun H locs hP hD hS => ?_)
  have hP : va_P D vwCl (va_pl L (va_up f (a 0) (.inr (9, [.int (zI (0)), .ref (a 1), .int (zI (mN M)), .ref (a 2), .int (zI ((mC M : Int))), .ref (a 3), .ref (a 4), .ref (a 5), .ref (a 6), .ref (a 7), .ref (a 8), .ref (a 9), .ref (a 10)])))) H := hP
  have hD : va_D A (va_pl L (va_up f (a 0) (.inr (9, [.int (zI (0)), .ref (a 1), .int (zI (mN M)), .ref (a 2), .int (zI ((mC M : Int))), .ref (a 3), .ref (a 4), .ref (a 5), .ref (a 6), .ref (a 7), .ref (a 8), .ref (a 9), .ref (a 10)])))) := hD
  refine lv_aload_n hx hb dX10_nodes_5 rfl (lv_at hl 0 rfl) ?_
  refine pl_get (ci := 9) (v := .int (zI ((mC M : Int)))) (C := RX10) (T := TX10) (N := 13) hx hb hts hi_X10 hown hK hP (hM.2.2.1 0 (by decide)) (va_up_self _ _ _) rfl 4 (by decide) hw_1 (fun _ h9 => h9) rfl dX10_nodes_6 ?_
  rw [hQ]
  exact pc_iret hx hb hrt hP (by rw [← hAd]; exact hD) (by rw [← hAd]; exact hS) (⟨rfl, rfl⟩) dX10_nodes_9 hlocks
