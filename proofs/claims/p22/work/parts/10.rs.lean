set_option maxHeartbeats 4000000 in
set_option maxRecDepth 100000 in
theorem kX9_upTo (l : Launch) (D : va_G) (k : Nat → ClassId) (L : List Nat) (f : Nat → va_E) (z : Int) (hz : -1000 ≤ z ∧ z ≤ 1000) : Met l yX9_upTo wsX9_upTo ({ frames := 0, cells := 0, slots := 0, locals := 0 } : Room) (va_Pc [.int (zI (z))] (rPre D (tyL k) (va_pl L f))) (vp_Si (fun r9 => r9 = upM z)) 0 0 (fun _ => False) := by
  refine Met.ofW (cc := cX9_upTo) (maxL := 1) (ret := (some .int)) (by decide) rfl ?_
  intro p e s m args below meth c s₁ B hml hv
  obtain ⟨rfl, hP, hC⟩ := hv
  have hK := hC.1
  have hNW := hC.2.1
  have hx := B.exec
  have hb := B.bytes
  have hrt := B.returns
  have hts := atoms_spec (ws := wsX9_upTo) B.pre
  have hown : s.vm.findClass RX9 = some m.cls := findClass_of_methodNamed B.named
  have hlocks := B.notSynchronized
  have hl := lv_entry ([.int (zI (z))]) (n := 1) (Nat.le_of_ble_eq_true rfl)
  rw [lg_entry_eq]
  generalize (lg_sl ([.int (zI (z))]) ++ List.replicate (1 - (lg_sl ([.int (zI (z))])).length) Slot.unset).toArray = ls at hl ⊢
  have hl : lv_has ls 1 [(0, .int (zI (z)))] := hl
  obtain ⟨Q, hQ⟩ : ∃ Q, Q = MQ below (vp_Si (fun r9 => r9 = upM z)) ([.int (zI (z))] : List Value).toArray s 0 0 (fun _ => False) := ⟨_, rfl⟩
  rw [← hQ]
  refine lv_iload_n hx hb dX9_upTo_0 rfl (lv_at hl 0 rfl) ?_
  refine zr_if_ge (tgt := 6) hx hb dX9_upTo_1 (by decide) (by omega) (fun c1 => ?_) (fun c1 => ?_)
  · refine lv_iload_n hx hb dX9_upTo_6 rfl (lv_at hl 0 rfl) ?_
    refine zr_bipush hx hb dX9_upTo_7 (by decide) ?_
    refine zr_icmp_le (tgt := 16) hx hb dX9_upTo_9 (by decide) (by omega) (by omega) (fun c2 => ?_) (fun c2 => ?_)
    · refine zr_const hx hb dX9_upTo_16 ?_
      refine lv_iload_n hx hb dX9_upTo_17 rfl (lv_at hl 0 rfl) ?_
      refine zr_const hx hb dX9_upTo_18 ?_
      refine zr_add hx hb dX9_upTo_19 ?_
      refine zr_shl1 hx hb (by omega) dX9_upTo_20 ?_
      refine zr_const hx hb dX9_upTo_21 ?_
      refine lv_isub hx hb dX9_upTo_22 ?_
      rw [hQ]
      exact rc_iret hx hb hrt (by show _ = _; first | exact (upM_1 (by omega)).symm | exact (upM_2 (by omega)).symm | exact (upM_3 (by omega)).symm) dX9_upTo_23 hlocks
    · refine zr_const hx hb dX9_upTo_12 ?_
      refine lv_goto (tgt := 23) hx hb dX9_upTo_13 (by decide) ?_
      rw [hQ]
      exact rc_iret hx hb hrt (by show _ = _; first | exact (upM_1 (by omega)).symm | exact (upM_2 (by omega)).symm | exact (upM_3 (by omega)).symm) dX9_upTo_23 hlocks
  · refine zr_const hx hb dX9_upTo_4 ?_
    rw [hQ]
    exact rc_iret hx hb hrt (by show _ = _; first | exact (upM_1 (by omega)).symm | exact (upM_2 (by omega)).symm | exact (upM_3 (by omega)).symm) dX9_upTo_5 hlocks

set_option maxHeartbeats 4000000 in
set_option maxRecDepth 100000 in
theorem kX9_onwardFrom (l : Launch) (D : va_G) (k : Nat → ClassId) (L : List Nat) (f : Nat → va_E) (z : Int) (hz : -900 ≤ z ∧ z ≤ 1000) : Met l yX9_onwardFrom wsX9_onwardFrom ({ frames := 1, cells := 0, slots := 0, locals := 20 } : Room) (va_Pc [.int (zI (z))] (rPre D (tyL k) (va_pl L f))) (vp_Si (fun r9 => r9 = onM z)) 0 0 (fun _ => False) := by
  refine Met.ofW (cc := cX9_onwardFrom) (maxL := 1) (ret := (some .int)) (by decide) rfl ?_
  intro p e s m args below meth c s₁ B hml hv
  obtain ⟨rfl, hP, hC⟩ := hv
  have hK := hC.1
  have hNW := hC.2.1
  have hx := B.exec
  have hb := B.bytes
  have hrt := B.returns
  have hts := atoms_spec (ws := wsX9_onwardFrom) B.pre
  have hown : s.vm.findClass RX9 = some m.cls := findClass_of_methodNamed B.named
  have hlocks := B.notSynchronized
  have hl := lv_entry ([.int (zI (z))]) (n := 1) (Nat.le_of_ble_eq_true rfl)
  rw [lg_entry_eq]
  generalize (lg_sl ([.int (zI (z))]) ++ List.replicate (1 - (lg_sl ([.int (zI (z))])).length) Slot.unset).toArray = ls at hl ⊢
  have hl : lv_has ls 1 [(0, .int (zI (z)))] := hl
  obtain ⟨Q, hQ⟩ : ∃ Q, Q = MQ below (vp_Si (fun r9 => r9 = onM z)) ([.int (zI (z))] : List Value).toArray s 0 0 (fun _ => False) := ⟨_, rfl⟩
  rw [← hQ]
  refine lv_iload_n hx hb dX9_onwardFrom_0 rfl (lv_at hl 0 rfl) ?_
  refine zr_const hx hb dX9_onwardFrom_1 ?_
  refine zr_sub hx hb dX9_onwardFrom_2 ?_
  refine vp_callSi (va_Run.run (va_runS (As := [.int (zI (z - 1))]) (rest := []) ⟨hx, hb, hml, hown, hts⟩ (kX9_upTo l D k L f (z - 1) (by omega)) (va_cwS 1 hts gX9_onwardFrom_X9_upTo rfl rfl rfl (by decide +kernel) ⟨Nat.le_of_ble_eq_true rfl, Nat.le_of_ble_eq_true rfl⟩) (rc_preS hC hP) rfl rfl hl.1 rfl (lv_room (Nat.le_of_ble_eq_true rfl)) dX9_onwardFrom_3 ⟨Nat.zero_le _, Nat.zero_le _⟩)) (fun r1 hr1 => ?_)
  subst hr1
  refine zr_const hx hb dX9_onwardFrom_6 ?_
  refine lv_ixor hx hb dX9_onwardFrom_7 ?_
  rw [hQ]
  exact rc_iret hx hb hrt (rfl) dX9_onwardFrom_8 hlocks

set_option maxHeartbeats 4000000 in
set_option maxRecDepth 100000 in
theorem kX6_row (l : Launch) (D : va_G) (k : Nat → ClassId) (L : List Nat) (f : Nat → va_E) (h r : Nat) (g : Nat → Int32) (hh : h ∈ L) (hfh : f h = .inr (5, [.ref r])) (hr : r ∈ L) (hfr : f r = .inl (k 0, 24, .inl g)) (z : Int) (hz : -2147483648 ≤ z ∧ z < 2147483648) : Met l yX6_row wsX6_row ({ frames := 0, cells := 0, slots := 0, locals := 0 } : Room) (va_Pc [.ref h, .int (zI (z))] (rPre D (tyL k) (va_pl L f))) (vp_Si (fun r9 => r9 = rowAt g z)) 0 0 (fun _ => False) := by
  refine Met.ofW (cc := cX6_row) (maxL := 2) (ret := (some .int)) (by decide) rfl ?_
  intro p e s m args below meth c s₁ B hml hv
  obtain ⟨rfl, hP, hC⟩ := hv
  have hK := hC.1
  have hNW := hC.2.1
  have hx := B.exec
  have hb := B.bytes
  have hrt := B.returns
  have hts := atoms_spec (ws := wsX6_row) B.pre
  have hown : s.vm.findClass RX6 = some m.cls := findClass_of_methodNamed B.named
  have hlocks := B.notSynchronized
  have hi_X6 : ∀ w ∈ u_ws RX6 TX6 1, w ∈ wsX6_row := by decide +kernel
  have hw_0 := hts (.fieldLink RX6 9 "Regionry$RegionSet" "rows" "[I") (by decide +kernel)
  have hl := lv_entry ([.ref h, .int (zI (z))]) (n := 2) (Nat.le_of_ble_eq_true rfl)
  rw [lg_entry_eq]
  generalize (lg_sl ([.ref h, .int (zI (z))]) ++ List.replicate (2 - (lg_sl ([.ref h, .int (zI (z))])).length) Slot.unset).toArray = ls at hl ⊢
  have hl : lv_has ls 2 [(0, .ref h), (1, .int (zI (z)))] := hl
  obtain ⟨Q, hQ⟩ : ∃ Q, Q = MQ below (vp_Si (fun r9 => r9 = rowAt g z)) ([.ref h, .int (zI (z))] : List Value).toArray s 0 0 (fun _ => False) := ⟨_, rfl⟩
  rw [← hQ]
  refine lv_iload_n hx hb dX6_row_0 rfl (lv_at hl 1 rfl) ?_
  refine zr_if_lt (tgt := 22) hx hb dX6_row_1 (by decide) (by omega) (fun c1 => ?_) (fun c1 => ?_)
  · refine zr_const hx hb dX6_row_22 ?_
    rw [hQ]
    exact rc_iret hx hb hrt (by show _ = _; first | exact (rowAt_in (by omega)).symm | exact (rowAt_out (by omega)).symm) dX6_row_23 hlocks
  · refine lv_iload_n hx hb dX6_row_4 rfl (lv_at hl 1 rfl) ?_
    refine lv_aload_n hx hb dX6_row_5 rfl (lv_at hl 0 rfl) ?_
    refine pl_get (ci := 5) (v := .ref r) (C := RX6) (T := TX6) (N := 1) hx hb hts hi_X6 hown hK hP hh hfh rfl 0 (by decide) hw_0 (fun _ h9 => h9) rfl dX6_row_6 ?_
    refine pl_alen (ty := .int) hx hb hK hP hr 0 hfr rfl (24) rfl dX6_row_9 ?_
    refine zr_icmp_ge (tgt := 22) hx hb dX6_row_10 (by decide) (by omega) (by omega) (fun c2 => ?_) (fun c2 => ?_)
    · refine zr_const hx hb dX6_row_22 ?_
      rw [hQ]
      exact rc_iret hx hb hrt (by show _ = _; first | exact (rowAt_in (by omega)).symm | exact (rowAt_out (by omega)).symm) dX6_row_23 hlocks
    · refine lv_aload_n hx hb dX6_row_13 rfl (lv_at hl 0 rfl) ?_
      refine pl_get (ci := 5) (v := .ref r) (C := RX6) (T := TX6) (N := 1) hx hb hts hi_X6 hown hK hP hh hfh rfl 0 (by decide) hw_0 (fun _ h9 => h9) rfl dX6_row_14 ?_
      refine lv_iload_n hx hb dX6_row_17 rfl (lv_at hl 1 rfl) ?_
      refine pl_iald hx hb hK hP hr 0 hfr rfl ((z).toNat) (by omega) (by omega) (by decide) dX6_row_18 ?_
      refine lv_goto (tgt := 23) hx hb dX6_row_19 (by decide) ?_
      rw [hQ]
      exact rc_iret hx hb hrt (by show _ = _; first | exact (rowAt_in (by omega)).symm | exact (rowAt_out (by omega)).symm) dX6_row_23 hlocks

set_option maxHeartbeats 4000000 in
set_option maxRecDepth 100000 in
theorem kX6_setRow (l : Launch) (D : va_G) (k : Nat → ClassId) (L : List Nat) (f : Nat → va_E) (h r : Nat) (g : Nat → Int32) (hh : h ∈ L) (hfh : f h = .inr (5, [.ref r])) (hr : r ∈ L) (hfr : f r = .inl (k 0, 24, .inl g)) (z : Int) (hz : -2147483648 ≤ z ∧ z < 2147483648) (x : Int32) (n0 sz : Nat) : Met l yX6_setRow wsX6_setRow ({ frames := 0, cells := 0, slots := 0, locals := 0 } : Room) (va_Pc [.ref h, .int (zI (z)), .int (x)] (pPre D (tyL k) n0 (va_pl L f) sz)) (va_Qv (fun u => u = va_pl L (va_up f r (.inl (k 0, 24, .inl (setR g z x))))) (pB D (va_pl L f) sz) (va_A (va_pl L f) sz)) 0 0 (va_A (va_pl L f) sz) := by
  refine Met.ofW (cc := cX6_setRow) (maxL := 3) (ret := none) (by decide) rfl ?_
  intro p e s m args below meth c s₁ B hml hv
  obtain ⟨rfl, hsz, hn9, hP, hC, hD0⟩ := hv
  have hK := hC.1
  have hNW := hC.2.1
  have hx := B.exec
  have hb := B.bytes
  have hrt := B.returns
  have hts := atoms_spec (ws := wsX6_setRow) B.pre
  have hown : s.vm.findClass RX6 = some m.cls := findClass_of_methodNamed B.named
  have hlocks := B.notSynchronized
  subst hsz
  obtain ⟨A, hAd⟩ : ∃ A, A = va_A (va_pl L f) s.heap.size := ⟨_, rfl⟩
  have hD := hD0.self (sz := s.heap.size)
  rw [← hAd] at hD
  have hA : ∀ q : Nat, s.heap.size ≤ q → A q := fun q h => by rw [hAd]; exact Or.inr h
  have hAn : ∀ q : Nat, A q → n0 ≤ q := fun q h => by
    rw [hAd] at h
    rcases h with ⟨k9, e9, hk9⟩ | h
    · exact hD0.2 k9 _ hk9
    · exact Nat.le_trans hn9 h
  have hS : va_S A s.heap s.heap [] := va_S.rf
  have hi_X6 : ∀ w ∈ u_ws RX6 TX6 1, w ∈ wsX6_setRow := by decide +kernel
  have hw_0 := hts (.fieldLink RX6 9 "Regionry$RegionSet" "rows" "[I") (by decide +kernel)
  have hl := lv_entry ([.ref h, .int (zI (z)), .int (x)]) (n := 3) (Nat.le_of_ble_eq_true rfl)
  rw [lg_entry_eq]
  generalize (lg_sl ([.ref h, .int (zI (z)), .int (x)]) ++ List.replicate (3 - (lg_sl ([.ref h, .int (zI (z)), .int (x)])).length) Slot.unset).toArray = ls at hl ⊢
  have hl : lv_has ls 3 [(0, .ref h), (1, .int (zI (z))), (2, .int (x))] := hl
  obtain ⟨Q, hQ⟩ : ∃ Q, Q = MQ below (va_Qv (fun u => u = va_pl L (va_up f r (.inl (k 0, 24, .inl (setR g z x))))) (pB D (va_pl L f) s.heap.size) (va_A (va_pl L f) s.heap.size)) ([.ref h, .int (zI (z)), .int (x)] : List Value).toArray s 0 0 (va_A (va_pl L f) s.heap.size) := ⟨_, rfl⟩
  rw [← hQ]
  refine lv_iload_n hx hb dX6_setRow_0 rfl (lv_at hl 1 rfl) ?_
  refine zr_if_lt (tgt := 20) hx hb dX6_setRow_1 (by decide) (by omega) (fun c1 => ?_) (fun c1 => ?_)
  · rw [hQ]
    exact pc_vret hx hb hrt hP (by rw [← hAd]; exact hD) (by rw [← hAd]; exact hS) (by show _ = _; first | rw [setR_in (by omega)] | rw [setR_out (by omega), up_id hfr]) dX6_setRow_20 hlocks
  · refine lv_iload_n hx hb dX6_setRow_4 rfl (lv_at hl 1 rfl) ?_
    refine lv_aload_n hx hb dX6_setRow_5 rfl (lv_at hl 0 rfl) ?_
    refine pl_get (ci := 5) (v := .ref r) (C := RX6) (T := TX6) (N := 1) hx hb hts hi_X6 hown hK hP hh hfh rfl 0 (by decide) hw_0 (fun _ h9 => h9) rfl dX6_setRow_6 ?_
    refine pl_alen (ty := .int) hx hb hK hP hr 0 hfr rfl (24) rfl dX6_setRow_9 ?_
    refine zr_icmp_ge (tgt := 20) hx hb dX6_setRow_10 (by decide) (by omega) (by omega) (fun c2 => ?_) (fun c2 => ?_)
    · rw [hQ]
      exact pc_vret hx hb hrt hP (by rw [← hAd]; exact hD) (by rw [← hAd]; exact hS) (by show _ = _; first | rw [setR_in (by omega)] | rw [setR_out (by omega), up_id hfr]) dX6_setRow_20 hlocks
    · refine lv_aload_n hx hb dX6_setRow_13 rfl (lv_at hl 0 rfl) ?_
      refine pl_get (ci := 5) (v := .ref r) (C := RX6) (T := TX6) (N := 1) hx hb hts hi_X6 hown hK hP hh hfh rfl 0 (by decide) hw_0 (fun _ h9 => h9) rfl dX6_setRow_14 ?_
      refine lv_iload_n hx hb dX6_setRow_17 rfl (lv_at hl 1 rfl) ?_
      refine lv_iload_n hx hb dX6_setRow_18 rfl (lv_at hl 2 rfl) ?_
      refine pl_iast (x := x) hx hb hK hP hD hS hr 0 hfr rfl ((z).toNat) (by omega) (by omega) (by decide) dX6_setRow_19 (fun H locs hP hD hS => ?_)
      have hP : va_P D vwCl (va_pl L (va_up f r (.inl (k 0, 24, .inl (upd g ((z).toNat) x))))) H := hP
      have hD : va_D A (va_pl L (va_up f r (.inl (k 0, 24, .inl (upd g ((z).toNat) x))))) := hD
      rw [hQ]
      exact pc_vret hx hb hrt hP (by rw [← hAd]; exact hD) (by rw [← hAd]; exact hS) (by show _ = _; first | rw [setR_in (by omega)] | rw [setR_out (by omega), up_id hfr]) dX6_setRow_20 hlocks

set_option maxHeartbeats 4000000 in
set_option maxRecDepth 100000 in
theorem kX6_contains (l : Launch) (D : va_G) (k : Nat → ClassId) (L : List Nat) (f : Nat → va_E) (h r : Nat) (g : Nat → Int32) (hh : h ∈ L) (hfh : f h = .inr (5, [.ref r])) (hr : r ∈ L) (hfr : f r = .inl (k 0, 24, .inl g)) (z : Int) (hz : -2147483648 ≤ z ∧ z < 2147483648) (w : Int) (hw : -2147483648 ≤ w ∧ w < 2147483648) : Met l yX6_contains wsX6_contains ({ frames := 0, cells := 0, slots := 0, locals := 0 } : Room) (va_Pc [.ref h, .int (zI (z)), .int (zI (w))] (rPre D (tyL k) (va_pl L f))) (vp_Si (fun r9 => r9 = bI (hasB g z w))) 0 0 (fun _ => False) := by
  refine Met.ofW (cc := cX6_contains) (maxL := 3) (ret := (some .boolean)) (by decide) rfl ?_
  intro p e s m args below meth c s₁ B hml hv
  obtain ⟨rfl, hP, hC⟩ := hv
  have hK := hC.1
  have hNW := hC.2.1
  have hx := B.exec
  have hb := B.bytes
  have hrt := B.returns
  have hts := atoms_spec (ws := wsX6_contains) B.pre
  have hown : s.vm.findClass RX6 = some m.cls := findClass_of_methodNamed B.named
  have hlocks := B.notSynchronized
  have hi_X6 : ∀ w ∈ u_ws RX6 TX6 1, w ∈ wsX6_contains := by decide +kernel
  have hw_0 := hts (.fieldLink RX6 9 "Regionry$RegionSet" "rows" "[I") (by decide +kernel)
  have hl := lv_entry ([.ref h, .int (zI (z)), .int (zI (w))]) (n := 3) (Nat.le_of_ble_eq_true rfl)
  rw [lg_entry_eq]
  generalize (lg_sl ([.ref h, .int (zI (z)), .int (zI (w))]) ++ List.replicate (3 - (lg_sl ([.ref h, .int (zI (z)), .int (zI (w))])).length) Slot.unset).toArray = ls at hl ⊢
  have hl : lv_has ls 3 [(0, .ref h), (1, .int (zI (z))), (2, .int (zI (w)))] := hl
  obtain ⟨Q, hQ⟩ : ∃ Q, Q = MQ below (vp_Si (fun r9 => r9 = bI (hasB g z w))) ([.ref h, .int (zI (z)), .int (zI (w))] : List Value).toArray s 0 0 (fun _ => False) := ⟨_, rfl⟩
  rw [← hQ]
  refine lv_iload_n hx hb dX6_contains_0 rfl (lv_at hl 1 rfl) ?_
  refine zr_if_lt (tgt := 41) hx hb dX6_contains_1 (by decide) (by omega) (fun c1 => ?_) (fun c1 => ?_)
  · refine zr_const hx hb dX6_contains_41 ?_
    rw [hQ]
    refine zr_top (y := bI (hasB g z w)) (by first | exact bI_t (hasB_t (by omega) (by assumption)) | exact bI_f (hasB_f2 (by assumption)) | exact bI_f (hasB_f1 (by omega))) ?_
    exact rc_zret hx hb hrt (rfl) dX6_contains_42 hlocks
  · refine lv_iload_n hx hb dX6_contains_4 rfl (lv_at hl 1 rfl) ?_
    refine lv_aload_n hx hb dX6_contains_5 rfl (lv_at hl 0 rfl) ?_
    refine pl_get (ci := 5) (v := .ref r) (C := RX6) (T := TX6) (N := 1) hx hb hts hi_X6 hown hK hP hh hfh rfl 0 (by decide) hw_0 (fun _ h9 => h9) rfl dX6_contains_6 ?_
    refine pl_alen (ty := .int) hx hb hK hP hr 0 hfr rfl (24) rfl dX6_contains_9 ?_
    refine zr_icmp_ge (tgt := 41) hx hb dX6_contains_10 (by decide) (by omega) (by omega) (fun c2 => ?_) (fun c2 => ?_)
    · refine zr_const hx hb dX6_contains_41 ?_
      rw [hQ]
      refine zr_top (y := bI (hasB g z w)) (by first | exact bI_t (hasB_t (by omega) (by assumption)) | exact bI_f (hasB_f2 (by assumption)) | exact bI_f (hasB_f1 (by omega))) ?_
      exact rc_zret hx hb hrt (rfl) dX6_contains_42 hlocks
    · refine lv_iload_n hx hb dX6_contains_13 rfl (lv_at hl 2 rfl) ?_
      refine lv_iload_n hx hb dX6_contains_14 rfl (lv_at hl 1 rfl) ?_
      refine zr_icmp_le (tgt := 41) hx hb dX6_contains_15 (by decide) (by omega) (by omega) (fun c3 => ?_) (fun c3 => ?_)
      · refine zr_const hx hb dX6_contains_41 ?_
        rw [hQ]
        refine zr_top (y := bI (hasB g z w)) (by first | exact bI_t (hasB_t (by omega) (by assumption)) | exact bI_f (hasB_f2 (by assumption)) | exact bI_f (hasB_f1 (by omega))) ?_
        exact rc_zret hx hb hrt (rfl) dX6_contains_42 hlocks
      · refine lv_iload_n hx hb dX6_contains_18 rfl (lv_at hl 2 rfl) ?_
        refine zr_bipush hx hb dX6_contains_19 (by decide) ?_
        refine zr_icmp_gt (tgt := 41) hx hb dX6_contains_21 (by decide) (by omega) (by omega) (fun c4 => ?_) (fun c4 => ?_)
        · refine zr_const hx hb dX6_contains_41 ?_
          rw [hQ]
          refine zr_top (y := bI (hasB g z w)) (by first | exact bI_t (hasB_t (by omega) (by assumption)) | exact bI_f (hasB_f2 (by assumption)) | exact bI_f (hasB_f1 (by omega))) ?_
          exact rc_zret hx hb hrt (rfl) dX6_contains_42 hlocks
        · refine lv_aload_n hx hb dX6_contains_24 rfl (lv_at hl 0 rfl) ?_
          refine pl_get (ci := 5) (v := .ref r) (C := RX6) (T := TX6) (N := 1) hx hb hts hi_X6 hown hK hP hh hfh rfl 0 (by decide) hw_0 (fun _ h9 => h9) rfl dX6_contains_25 ?_
          refine lv_iload_n hx hb dX6_contains_28 rfl (lv_at hl 1 rfl) ?_
          refine pl_iald hx hb hK hP hr 0 hfr rfl ((z).toNat) (by omega) (by omega) (by decide) dX6_contains_29 ?_
          refine zr_const hx hb dX6_contains_30 ?_
          refine lv_iload_n hx hb dX6_contains_31 rfl (lv_at hl 2 rfl) ?_
          refine zr_shl1 hx hb (by omega) dX6_contains_32 ?_
          refine lv_iand hx hb dX6_contains_33 ?_
          refine zr_ifm_eq (tgt := 41) hx hb (by omega) dX6_contains_34 (by decide) (fun c5 => ?_) (fun c5 => ?_)
          · refine zr_const hx hb dX6_contains_41 ?_
            rw [hQ]
            refine zr_top (y := bI (hasB g z w)) (by first | exact bI_t (hasB_t (by omega) (by assumption)) | exact bI_f (hasB_f2 (by assumption)) | exact bI_f (hasB_f1 (by omega))) ?_
            exact rc_zret hx hb hrt (rfl) dX6_contains_42 hlocks
          · refine zr_const hx hb dX6_contains_37 ?_
            refine lv_goto (tgt := 42) hx hb dX6_contains_38 (by decide) ?_
            rw [hQ]
            refine zr_top (y := bI (hasB g z w)) (by first | exact bI_t (hasB_t (by omega) (by assumption)) | exact bI_f (hasB_f2 (by assumption)) | exact bI_f (hasB_f1 (by omega))) ?_
            exact rc_zret hx hb hrt (rfl) dX6_contains_42 hlocks

set_option maxHeartbeats 4000000 in
set_option maxRecDepth 100000 in
theorem kX6_add (l : Launch) (D : va_G) (k : Nat → ClassId) (L : List Nat) (f : Nat → va_E) (h r : Nat) (g : Nat → Int32) (hh : h ∈ L) (hfh : f h = .inr (5, [.ref r])) (hr : r ∈ L) (hfr : f r = .inl (k 0, 24, .inl g)) (z : Int) (hz : -2147483648 ≤ z ∧ z < 2147483648) (w : Int) (hw : -2147483648 ≤ w ∧ w < 2147483648) (n0 sz : Nat) : Met l yX6_add wsX6_add ({ frames := 0, cells := 0, slots := 0, locals := 0 } : Room) (va_Pc [.ref h, .int (zI (z)), .int (zI (w))] (pPre D (tyL k) n0 (va_pl L f) sz)) (va_Qv (fun u => u = va_pl L (va_up f r (.inl (k 0, 24, .inl (addR g z w))))) (pB D (va_pl L f) sz) (va_A (va_pl L f) sz)) 0 0 (va_A (va_pl L f) sz) := by
  refine Met.ofW (cc := cX6_add) (maxL := 3) (ret := none) (by decide) rfl ?_
  intro p e s m args below meth c s₁ B hml hv
  obtain ⟨rfl, hsz, hn9, hP, hC, hD0⟩ := hv
  have hK := hC.1
  have hNW := hC.2.1
  have hx := B.exec
  have hb := B.bytes
  have hrt := B.returns
  have hts := atoms_spec (ws := wsX6_add) B.pre
  have hown : s.vm.findClass RX6 = some m.cls := findClass_of_methodNamed B.named
  have hlocks := B.notSynchronized
  subst hsz
  obtain ⟨A, hAd⟩ : ∃ A, A = va_A (va_pl L f) s.heap.size := ⟨_, rfl⟩
  have hD := hD0.self (sz := s.heap.size)
  rw [← hAd] at hD
  have hA : ∀ q : Nat, s.heap.size ≤ q → A q := fun q h => by rw [hAd]; exact Or.inr h
  have hAn : ∀ q : Nat, A q → n0 ≤ q := fun q h => by
    rw [hAd] at h
    rcases h with ⟨k9, e9, hk9⟩ | h
    · exact hD0.2 k9 _ hk9
    · exact Nat.le_trans hn9 h
  have hS : va_S A s.heap s.heap [] := va_S.rf
  have hi_X6 : ∀ w ∈ u_ws RX6 TX6 1, w ∈ wsX6_add := by decide +kernel
  have hw_0 := hts (.fieldLink RX6 9 "Regionry$RegionSet" "rows" "[I") (by decide +kernel)
  have hl := lv_entry ([.ref h, .int (zI (z)), .int (zI (w))]) (n := 3) (Nat.le_of_ble_eq_true rfl)
  rw [lg_entry_eq]
  generalize (lg_sl ([.ref h, .int (zI (z)), .int (zI (w))]) ++ List.replicate (3 - (lg_sl ([.ref h, .int (zI (z)), .int (zI (w))])).length) Slot.unset).toArray = ls at hl ⊢
  have hl : lv_has ls 3 [(0, .ref h), (1, .int (zI (z))), (2, .int (zI (w)))] := hl
  obtain ⟨Q, hQ⟩ : ∃ Q, Q = MQ below (va_Qv (fun u => u = va_pl L (va_up f r (.inl (k 0, 24, .inl (addR g z w))))) (pB D (va_pl L f) s.heap.size) (va_A (va_pl L f) s.heap.size)) ([.ref h, .int (zI (z)), .int (zI (w))] : List Value).toArray s 0 0 (va_A (va_pl L f) s.heap.size) := ⟨_, rfl⟩
  rw [← hQ]
  refine lv_iload_n hx hb dX6_add_0 rfl (lv_at hl 1 rfl) ?_
  refine zr_if_lt (tgt := 36) hx hb dX6_add_1 (by decide) (by omega) (fun c1 => ?_) (fun c1 => ?_)
  · rw [hQ]
    exact pc_vret hx hb hrt hP (by rw [← hAd]; exact hD) (by rw [← hAd]; exact hS) (by show _ = _; first | rw [addR_in (by omega)] | rw [addR_out (by omega), up_id hfr]) dX6_add_36 hlocks
  · refine lv_iload_n hx hb dX6_add_4 rfl (lv_at hl 1 rfl) ?_
    refine lv_aload_n hx hb dX6_add_5 rfl (lv_at hl 0 rfl) ?_
    refine pl_get (ci := 5) (v := .ref r) (C := RX6) (T := TX6) (N := 1) hx hb hts hi_X6 hown hK hP hh hfh rfl 0 (by decide) hw_0 (fun _ h9 => h9) rfl dX6_add_6 ?_
    refine pl_alen (ty := .int) hx hb hK hP hr 0 hfr rfl (24) rfl dX6_add_9 ?_
    refine zr_icmp_ge (tgt := 36) hx hb dX6_add_10 (by decide) (by omega) (by omega) (fun c2 => ?_) (fun c2 => ?_)
    · rw [hQ]
      exact pc_vret hx hb hrt hP (by rw [← hAd]; exact hD) (by rw [← hAd]; exact hS) (by show _ = _; first | rw [addR_in (by omega)] | rw [addR_out (by omega), up_id hfr]) dX6_add_36 hlocks
    · refine lv_iload_n hx hb dX6_add_13 rfl (lv_at hl 2 rfl) ?_
      refine lv_iload_n hx hb dX6_add_14 rfl (lv_at hl 1 rfl) ?_
      refine zr_icmp_le (tgt := 36) hx hb dX6_add_15 (by decide) (by omega) (by omega) (fun c3 => ?_) (fun c3 => ?_)
      · rw [hQ]
        exact pc_vret hx hb hrt hP (by rw [← hAd]; exact hD) (by rw [← hAd]; exact hS) (by show _ = _; first | rw [addR_in (by omega)] | rw [addR_out (by omega), up_id hfr]) dX6_add_36 hlocks
      · refine lv_iload_n hx hb dX6_add_18 rfl (lv_at hl 2 rfl) ?_
        refine zr_bipush hx hb dX6_add_19 (by decide) ?_
        refine zr_icmp_gt (tgt := 36) hx hb dX6_add_21 (by decide) (by omega) (by omega) (fun c4 => ?_) (fun c4 => ?_)
        · rw [hQ]
          exact pc_vret hx hb hrt hP (by rw [← hAd]; exact hD) (by rw [← hAd]; exact hS) (by show _ = _; first | rw [addR_in (by omega)] | rw [addR_out (by omega), up_id hfr]) dX6_add_36 hlocks
        · refine lv_aload_n hx hb dX6_add_24 rfl (lv_at hl 0 rfl) ?_
          refine pl_get (ci := 5) (v := .ref r) (C := RX6) (T := TX6) (N := 1) hx hb hts hi_X6 hown hK hP hh hfh rfl 0 (by decide) hw_0 (fun _ h9 => h9) rfl dX6_add_25 ?_
          refine lv_iload_n hx hb dX6_add_28 rfl (lv_at hl 1 rfl) ?_
          refine lv_dup2_11 hx hb dX6_add_29 rfl rfl ?_
          refine pl_iald hx hb hK hP hr 0 hfr rfl ((z).toNat) (by omega) (by omega) (by decide) dX6_add_30 ?_
          refine zr_const hx hb dX6_add_31 ?_
          refine lv_iload_n hx hb dX6_add_32 rfl (lv_at hl 2 rfl) ?_
          refine zr_shl1 hx hb (by omega) dX6_add_33 ?_
          refine lv_ior hx hb dX6_add_34 ?_
          refine pl_iast (x := ((g ((z).toNat)) ||| (pw (w).toNat))) hx hb hK hP hD hS hr 0 hfr rfl ((z).toNat) (by omega) (by omega) (by decide) dX6_add_35 (fun H locs hP hD hS => ?_)
          have hP : va_P D vwCl (va_pl L (va_up f r (.inl (k 0, 24, .inl (upd g ((z).toNat) ((g ((z).toNat)) ||| (pw (w).toNat))))))) H := hP
          have hD : va_D A (va_pl L (va_up f r (.inl (k 0, 24, .inl (upd g ((z).toNat) ((g ((z).toNat)) ||| (pw (w).toNat))))))) := hD
          rw [hQ]
          exact pc_vret hx hb hrt hP (by rw [← hAd]; exact hD) (by rw [← hAd]; exact hS) (by show _ = _; first | rw [addR_in (by omega)] | rw [addR_out (by omega), up_id hfr]) dX6_add_36 hlocks

set_option maxHeartbeats 4000000 in
set_option maxRecDepth 100000 in
theorem kX6_drop (l : Launch) (D : va_G) (k : Nat → ClassId) (L : List Nat) (f : Nat → va_E) (h r : Nat) (g : Nat → Int32) (hh : h ∈ L) (hfh : f h = .inr (5, [.ref r])) (hr : r ∈ L) (hfr : f r = .inl (k 0, 24, .inl g)) (z : Int) (hz : -2147483648 ≤ z ∧ z < 2147483648) (w : Int) (hw : -2147483648 ≤ w ∧ w < 2147483648) (n0 sz : Nat) : Met l yX6_drop wsX6_drop ({ frames := 1, cells := 0, slots := 0, locals := 22 } : Room) (va_Pc [.ref h, .int (zI (z)), .int (zI (w))] (pPre D (tyL k) n0 (va_pl L f) sz)) (va_Qv (fun u => u = va_pl L (va_up f r (.inl (k 0, 24, .inl (dropR g z w))))) (pB D (va_pl L f) sz) (va_A (va_pl L f) sz)) 0 0 (va_A (va_pl L f) sz) := by
  refine Met.ofW (cc := cX6_drop) (maxL := 3) (ret := none) (by decide) rfl ?_
  intro p e s m args below meth c s₁ B hml hv
  obtain ⟨rfl, hsz, hn9, hP, hC, hD0⟩ := hv
  have hK := hC.1
  have hNW := hC.2.1
  have hx := B.exec
  have hb := B.bytes
  have hrt := B.returns
  have hts := atoms_spec (ws := wsX6_drop) B.pre
  have hown : s.vm.findClass RX6 = some m.cls := findClass_of_methodNamed B.named
  have hlocks := B.notSynchronized
  subst hsz
  obtain ⟨A, hAd⟩ : ∃ A, A = va_A (va_pl L f) s.heap.size := ⟨_, rfl⟩
  have hD := hD0.self (sz := s.heap.size)
  rw [← hAd] at hD
  have hA : ∀ q : Nat, s.heap.size ≤ q → A q := fun q h => by rw [hAd]; exact Or.inr h
  have hAn : ∀ q : Nat, A q → n0 ≤ q := fun q h => by
    rw [hAd] at h
    rcases h with ⟨k9, e9, hk9⟩ | h
    · exact hD0.2 k9 _ hk9
    · exact Nat.le_trans hn9 h
  have hS : va_S A s.heap s.heap [] := va_S.rf
  have hl := lv_entry ([.ref h, .int (zI (z)), .int (zI (w))]) (n := 3) (Nat.le_of_ble_eq_true rfl)
  rw [lg_entry_eq]
  generalize (lg_sl ([.ref h, .int (zI (z)), .int (zI (w))]) ++ List.replicate (3 - (lg_sl ([.ref h, .int (zI (z)), .int (zI (w))])).length) Slot.unset).toArray = ls at hl ⊢
  have hl : lv_has ls 3 [(0, .ref h), (1, .int (zI (z))), (2, .int (zI (w)))] := hl
  obtain ⟨Q, hQ⟩ : ∃ Q, Q = MQ below (va_Qv (fun u => u = va_pl L (va_up f r (.inl (k 0, 24, .inl (dropR g z w))))) (pB D (va_pl L f) s.heap.size) (va_A (va_pl L f) s.heap.size)) ([.ref h, .int (zI (z)), .int (zI (w))] : List Value).toArray s 0 0 (va_A (va_pl L f) s.heap.size) := ⟨_, rfl⟩
  rw [← hQ]
  refine lv_aload_n hx hb dX6_drop_0 rfl (lv_at hl 0 rfl) ?_
  refine lv_iload_n hx hb dX6_drop_1 rfl (lv_at hl 1 rfl) ?_
  refine lv_iload_n hx hb dX6_drop_2 rfl (lv_at hl 2 rfl) ?_
  refine vp_callSi (va_Run.run (va_runV (As := [.int (zI (z)), .int (zI (w))]) (rest := []) ⟨hx, hb, hml, hown, hts⟩ (kX6_contains l D k L f h r g hh hfh hr hfr (z) (by omega) (w) (by omega)) (cwV 2 hts gX6_drop_X6_contains rfl rfl rfl (by decide +kernel) ⟨Nat.le_of_ble_eq_true rfl, Nat.le_of_ble_eq_true rfl⟩) (rc_preV hC hP (pl_recv hK hP hh hfh (ci := 5) (q := (RX6, TX6, 1)) rfl)) rfl rfl hl.1 rfl (lv_room (Nat.le_of_ble_eq_true rfl)) dX6_drop_3 ⟨Nat.zero_le _, Nat.zero_le _⟩)) (fun r1 hr1 => ?_)
  subst hr1
  refine zr_ifb_eq (tgt := 25) hx hb dX6_drop_6 (by decide) (fun c2 => ?_) (fun c2 => ?_)
  · rw [hQ]
    exact pc_vret hx hb hrt hP (by rw [← hAd]; exact hD) (by rw [← hAd]; exact hS) (by show _ = _; first | rw [dropR_t (by assumption)] | rw [dropR_f (by assumption), up_id hfr]) dX6_drop_25 hlocks
  · have hrg := hasB_rng c2
    refine lv_aload_n hx hb dX6_drop_9 rfl (lv_at hl 0 rfl) ?_
    refine lv_iload_n hx hb dX6_drop_10 rfl (lv_at hl 1 rfl) ?_
    refine lv_aload_n hx hb dX6_drop_11 rfl (lv_at hl 0 rfl) ?_
    refine lv_iload_n hx hb dX6_drop_12 rfl (lv_at hl 1 rfl) ?_
    refine vp_callSi (va_Run.run (va_runV (As := [.int (zI (z))]) (rest := [.int (zI (z)), .ref h]) ⟨hx, hb, hml, hown, hts⟩ (kX6_row l D k L f h r g hh hfh hr hfr (z) (by omega)) (cwV 1 hts gX6_drop_X6_row rfl rfl rfl (by decide +kernel) ⟨Nat.le_of_ble_eq_true rfl, Nat.le_of_ble_eq_true rfl⟩) (rc_preV hC hP (pl_recv hK hP hh hfh (ci := 5) (q := (RX6, TX6, 1)) rfl)) rfl rfl hl.1 rfl (lv_room (Nat.le_of_ble_eq_true rfl)) dX6_drop_13 ⟨Nat.zero_le _, Nat.zero_le _⟩)) (fun r3 hr3 => ?_)
    subst hr3
    refine zr_const hx hb dX6_drop_16 ?_
    refine lv_iload_n hx hb dX6_drop_17 rfl (lv_at hl 2 rfl) ?_
    refine zr_shl1 hx hb (by omega) dX6_drop_18 ?_
    refine zr_const hx hb dX6_drop_19 ?_
    refine lv_ixor hx hb dX6_drop_20 ?_
    refine lv_iand hx hb dX6_drop_21 ?_
    refine pc_callv (va_runV (As := [.int (zI (z)), .int ((rowAt g z) &&& ((pw (w).toNat) ^^^ (zI (-1))))]) (rest := []) ⟨hx, hb, hml, hown, hts⟩ (kX6_setRow l D k L f h r g hh hfh hr hfr (z) (by omega) ((rowAt g z) &&& ((pw (w).toNat) ^^^ (zI (-1)))) n0 _) (cwV 2 hts gX6_drop_X6_setRow rfl rfl rfl (by decide +kernel) ⟨Nat.le_of_ble_eq_true rfl, Nat.le_of_ble_eq_true rfl⟩) (pc_preV hC hP (Nat.le_trans hn9 hS.1) hD hAn (pl_recv hK hP hh hfh (ci := 5) (q := (RX6, TX6, 1)) rfl)) rfl rfl hl.1 rfl (lv_room (Nat.le_of_ble_eq_true rfl)) dX6_drop_22 ⟨Nat.zero_le _, Nat.zero_le _⟩) hD hS hA (fun ur4 H locs hr4 hP hD hS hzr4 => ?_)
    subst hr4
    have hP : va_P D vwCl (va_pl L (va_up f r (.inl (k 0, 24, .inl (setR g z ((rowAt g z) &&& ((pw (w).toNat) ^^^ (zI (-1))))))))) H := hP
    have hD : va_D A (va_pl L (va_up f r (.inl (k 0, 24, .inl (setR g z ((rowAt g z) &&& ((pw (w).toNat) ^^^ (zI (-1))))))))) := hD
    rw [hQ]
    exact pc_vret hx hb hrt hP (by rw [← hAd]; exact hD) (by rw [← hAd]; exact hS) (by show _ = _; first | rw [dropR_t (by assumption)] | rw [dropR_f (by assumption), up_id hfr]) dX6_drop_25 hlocks

set_option maxHeartbeats 4000000 in
set_option maxRecDepth 100000 in
theorem kX6_clear (l : Launch) (D : va_G) (k : Nat → ClassId) (L : List Nat) (f : Nat → va_E) (h r : Nat) (g : Nat → Int32) (hh : h ∈ L) (hfh : f h = .inr (5, [.ref r])) (hr : r ∈ L) (hfr : f r = .inl (k 0, 24, .inl g)) (n0 sz : Nat) : Met l yX6_clear wsX6_clear ({ frames := 0, cells := 0, slots := 0, locals := 0 } : Room) (va_Pc [.ref h] (pPre D (tyL k) n0 (va_pl L f) sz)) (va_Qv (fun u => u = va_pl L (va_up f r (.inl (k 0, 24, .inl (fa_fill (fun _ => zI 0) g 24))))) (pB D (va_pl L f) sz) (va_A (va_pl L f) sz)) 0 0 (va_A (va_pl L f) sz) := by
  refine Met.ofW (cc := cX6_clear) (maxL := 2) (ret := none) (by decide) rfl ?_
  intro p e s m args below meth c s₁ B hml hv
  obtain ⟨rfl, hsz, hn9, hP, hC, hD0⟩ := hv
  have hK := hC.1
  have hNW := hC.2.1
  have hx := B.exec
  have hb := B.bytes
  have hrt := B.returns
  have hts := atoms_spec (ws := wsX6_clear) B.pre
  have hown : s.vm.findClass RX6 = some m.cls := findClass_of_methodNamed B.named
  have hlocks := B.notSynchronized
  subst hsz
  obtain ⟨A, hAd⟩ : ∃ A, A = va_A (va_pl L f) s.heap.size := ⟨_, rfl⟩
  have hD := hD0.self (sz := s.heap.size)
  rw [← hAd] at hD
  have hA : ∀ q : Nat, s.heap.size ≤ q → A q := fun q h => by rw [hAd]; exact Or.inr h
  have hAn : ∀ q : Nat, A q → n0 ≤ q := fun q h => by
    rw [hAd] at h
    rcases h with ⟨k9, e9, hk9⟩ | h
    · exact hD0.2 k9 _ hk9
    · exact Nat.le_trans hn9 h
  have hS : va_S A s.heap s.heap [] := va_S.rf
  have hi_X6 : ∀ w ∈ u_ws RX6 TX6 1, w ∈ wsX6_clear := by decide +kernel
  have hw_0 := hts (.fieldLink RX6 9 "Regionry$RegionSet" "rows" "[I") (by decide +kernel)
  have hl := lv_entry ([.ref h]) (n := 2) (Nat.le_of_ble_eq_true rfl)
  rw [lg_entry_eq]
  generalize (lg_sl ([.ref h]) ++ List.replicate (2 - (lg_sl ([.ref h])).length) Slot.unset).toArray = ls at hl ⊢
  have hl : lv_has ls 2 [(0, .ref h)] := hl
  obtain ⟨Q, hQ⟩ : ∃ Q, Q = MQ below (va_Qv (fun u => u = va_pl L (va_up f r (.inl (k 0, 24, .inl (fa_fill (fun _ => zI 0) g 24))))) (pB D (va_pl L f) s.heap.size) (va_A (va_pl L f) s.heap.size)) ([.ref h] : List Value).toArray s 0 0 (va_A (va_pl L f) s.heap.size) := ⟨_, rfl⟩
  rw [← hQ]
  refine zr_const hx hb dX6_clear_0 ?_
  refine lv_istore_n (lv' := [(1, .int (zI (0))), (0, .ref h)]) hx hb dX6_clear_1 rfl hl (by decide) rfl (fun ls hl => ?_)
  have cut_2 : ∀ (n9 : Nat) (i : Nat) (z1 : Int), (i ≤ 24) → (z1 = i) → 24 - z1 < (n9 : Int) → ∀ (H : Heap) (locs : List Loc), va_P D vwCl (va_pl L (va_up f r (.inl (k 0, 24, .inl (fa_fill (fun _ => zI 0) g i))))) H → va_D A (va_pl L (va_up f r (.inl (k 0, 24, .inl (fa_fill (fun _ => zI 0) g i))))) → va_S A s.heap H locs → ∀ (ls : Array Slot), lv_has ls 2 [(0, .ref h), (1, .int (zI (z1)))] → W p l e (headSpec wsX6_clear ({ frames := 0, cells := 0, slots := 0, locals := 0 } : Room)).room s m ([.ref h] : List Value).toArray below meth c H locs 0 0 Q (F0 m 2 ls []) := by
    intro n9
    induction n9 with
    | zero =>
      intro i z1 hi hz1 hfu
      exact absurd hfu (by omega)
    | succ n9 ih_2 =>
      intro i z1 hi hz1 hfu H locs hP hD hS ls hl
      refine lv_iload_n hx hb dX6_clear_2 rfl (lv_at hl 1 rfl) ?_
      refine lv_aload_n hx hb dX6_clear_3 rfl (lv_at hl 0 rfl) ?_
      refine pl_get (ci := 5) (v := .ref r) (C := RX6) (T := TX6) (N := 1) hx hb hts hi_X6 hown hK hP hh ((va_up_ne _ _ (ne_k hfh hfr (by simp))).trans hfh) rfl 0 (by decide) hw_0 (fun _ h9 => h9) rfl dX6_clear_4 ?_
      refine pl_alen (ty := .int) hx hb hK hP hr 0 (va_up_self _ _ _) rfl (24) rfl dX6_clear_7 ?_
      refine zr_icmp_ge (tgt := 24) hx hb dX6_clear_8 (by decide) (by omega) (by omega) (fun c1 => ?_) (fun c1 => ?_)
      · rw [hQ]
        exact pc_vret hx hb hrt hP (by rw [← hAd]; exact hD) (by rw [← hAd]; exact hS) (by obtain rfl : i = 24 := (by omega); rfl) dX6_clear_24 hlocks
      · refine lv_aload_n hx hb dX6_clear_11 rfl (lv_at hl 0 rfl) ?_
        refine pl_get (ci := 5) (v := .ref r) (C := RX6) (T := TX6) (N := 1) hx hb hts hi_X6 hown hK hP hh ((va_up_ne _ _ (ne_k hfh hfr (by simp))).trans hfh) rfl 0 (by decide) hw_0 (fun _ h9 => h9) rfl dX6_clear_12 ?_
        refine lv_iload_n hx hb dX6_clear_15 rfl (lv_at hl 1 rfl) ?_
        refine zr_const hx hb dX6_clear_16 ?_
        refine pl_iast (x := (zI (0))) hx hb hK hP hD hS hr 0 (va_up_self _ _ _) rfl (i) (by omega) (by omega) (by decide) dX6_clear_17 (fun H locs hP hD hS => ?_)
        rw [bx_uu] at hP hD
        have hP : va_P D vwCl (va_pl L (va_up f r (.inl (k 0, 24, .inl (upd ((fa_fill (fun _ => zI 0) g i)) (i) (zI (0))))))) H := hP
        have hD : va_D A (va_pl L (va_up f r (.inl (k 0, 24, .inl (upd ((fa_fill (fun _ => zI 0) g i)) (i) (zI (0))))))) := hD
        refine zr_iinc (k := 1) (lv' := [(1, .int (zI (z1 + 1))), (0, .ref h)]) hx hb dX6_clear_18 hl rfl (by decide) rfl (fun ls hl => ?_)
        refine lv_goto (tgt := 2) hx hb dX6_clear_21 (by decide) ?_
        have hg9 : ((upd ((fa_fill (fun _ => zI 0) g i)) (i) (zI (0))) : Nat → Int32) = fa_fill (fun _ => zI 0) g (i + 1) := by exact fa_fill_succ (fun _ => zI 0) g i
        rw [hg9] at hP hD
        exact ih_2 (i + 1) (z1 + 1) (by omega) (by omega) (by omega) _ _ hP hD hS _ (lv_sub hl [1, 0] rfl)
  rw [← up_id (a := r) hfr] at hP hD
  have hg9 : (g : Nat → Int32) = fa_fill (fun _ => zI 0) g (0) := by exact (fa_fill_0 _ _).symm
  rw [hg9] at hP hD
  exact cut_2 ((24 - (0) : Int).toNat + 1) (0) (0) (by omega) (by omega) (by omega) _ _ hP hD hS _ (lv_sub hl [1, 0] rfl)

set_option maxHeartbeats 4000000 in
set_option maxRecDepth 100000 in
theorem kX6_takeOver (l : Launch) (D : va_G) (k : Nat → ClassId) (L : List Nat) (f : Nat → va_E) (h r : Nat) (g : Nat → Int32) (hh : h ∈ L) (hfh : f h = .inr (5, [.ref r])) (hr : r ∈ L) (hfr : f r = .inl (k 0, 24, .inl g)) (h1 r1 : Nat) (g1 : Nat → Int32) (hh1 : h1 ∈ L) (hfh1 : f h1 = .inr (5, [.ref r1])) (hr1 : r1 ∈ L) (hfr1 : f r1 = .inl (k 0, 24, .inl g1)) (hrr : r1 ≠ r) (n0 sz : Nat) : Met l yX6_takeOver wsX6_takeOver ({ frames := 1, cells := 0, slots := 0, locals := 21 } : Room) (va_Pc [.ref h, .ref h1] (pPre D (tyL k) n0 (va_pl L f) sz)) (va_Qv (fun u => u = va_pl L (va_up f r (.inl (k 0, 24, .inl (fa_fill (fun j => rowAt g1 (j : Int)) g 24))))) (pB D (va_pl L f) sz) (va_A (va_pl L f) sz)) 0 0 (va_A (va_pl L f) sz) := by
  refine Met.ofW (cc := cX6_takeOver) (maxL := 3) (ret := none) (by decide) rfl ?_
  intro p e s m args below meth c s₁ B hml hv
  obtain ⟨rfl, hsz, hn9, hP, hC, hD0⟩ := hv
  have hK := hC.1
  have hNW := hC.2.1
  have hx := B.exec
  have hb := B.bytes
  have hrt := B.returns
  have hts := atoms_spec (ws := wsX6_takeOver) B.pre
  have hown : s.vm.findClass RX6 = some m.cls := findClass_of_methodNamed B.named
  have hlocks := B.notSynchronized
  subst hsz
  obtain ⟨A, hAd⟩ : ∃ A, A = va_A (va_pl L f) s.heap.size := ⟨_, rfl⟩
  have hD := hD0.self (sz := s.heap.size)
  rw [← hAd] at hD
  have hA : ∀ q : Nat, s.heap.size ≤ q → A q := fun q h => by rw [hAd]; exact Or.inr h
  have hAn : ∀ q : Nat, A q → n0 ≤ q := fun q h => by
    rw [hAd] at h
    rcases h with ⟨k9, e9, hk9⟩ | h
    · exact hD0.2 k9 _ hk9
    · exact Nat.le_trans hn9 h
  have hS : va_S A s.heap s.heap [] := va_S.rf
  have hi_X6 : ∀ w ∈ u_ws RX6 TX6 1, w ∈ wsX6_takeOver := by decide +kernel
  have hw_0 := hts (.fieldLink RX6 9 "Regionry$RegionSet" "rows" "[I") (by decide +kernel)
  have hl := lv_entry ([.ref h, .ref h1]) (n := 3) (Nat.le_of_ble_eq_true rfl)
  rw [lg_entry_eq]
  generalize (lg_sl ([.ref h, .ref h1]) ++ List.replicate (3 - (lg_sl ([.ref h, .ref h1])).length) Slot.unset).toArray = ls at hl ⊢
  have hl : lv_has ls 3 [(0, .ref h), (1, .ref h1)] := hl
  obtain ⟨Q, hQ⟩ : ∃ Q, Q = MQ below (va_Qv (fun u => u = va_pl L (va_up f r (.inl (k 0, 24, .inl (fa_fill (fun j => rowAt g1 (j : Int)) g 24))))) (pB D (va_pl L f) s.heap.size) (va_A (va_pl L f) s.heap.size)) ([.ref h, .ref h1] : List Value).toArray s 0 0 (va_A (va_pl L f) s.heap.size) := ⟨_, rfl⟩
  rw [← hQ]
  refine zr_const hx hb dX6_takeOver_0 ?_
  refine lv_istore_n (lv' := [(2, .int (zI (0))), (0, .ref h), (1, .ref h1)]) hx hb dX6_takeOver_1 rfl hl (by decide) rfl (fun ls hl => ?_)
  have cut_2 : ∀ (n9 : Nat) (i : Nat) (z1 : Int), (i ≤ 24) → (z1 = i) → 24 - z1 < (n9 : Int) → ∀ (H : Heap) (locs : List Loc), va_P D vwCl (va_pl L (va_up f r (.inl (k 0, 24, .inl (fa_fill (fun j => rowAt g1 (j : Int)) g i))))) H → va_D A (va_pl L (va_up f r (.inl (k 0, 24, .inl (fa_fill (fun j => rowAt g1 (j : Int)) g i))))) → va_S A s.heap H locs → ∀ (ls : Array Slot), lv_has ls 3 [(0, .ref h), (1, .ref h1), (2, .int (zI (z1)))] → W p l e (headSpec wsX6_takeOver ({ frames := 1, cells := 0, slots := 0, locals := 21 } : Room)).room s m ([.ref h, .ref h1] : List Value).toArray below meth c H locs 0 0 Q (F0 m 2 ls []) := by
    intro n9
    induction n9 with
    | zero =>
      intro i z1 hi hz1 hfu
      exact absurd hfu (by omega)
    | succ n9 ih_2 =>
      intro i z1 hi hz1 hfu H locs hP hD hS ls hl
      refine lv_iload_n hx hb dX6_takeOver_2 rfl (lv_at hl 2 rfl) ?_
      refine lv_aload_n hx hb dX6_takeOver_3 rfl (lv_at hl 0 rfl) ?_
      refine pl_get (ci := 5) (v := .ref r) (C := RX6) (T := TX6) (N := 1) hx hb hts hi_X6 hown hK hP hh ((va_up_ne _ _ (ne_k hfh hfr (by simp))).trans hfh) rfl 0 (by decide) hw_0 (fun _ h9 => h9) rfl dX6_takeOver_4 ?_
      refine pl_alen (ty := .int) hx hb hK hP hr 0 (va_up_self _ _ _) rfl (24) rfl dX6_takeOver_7 ?_
      refine zr_icmp_ge (tgt := 28) hx hb dX6_takeOver_8 (by decide) (by omega) (by omega) (fun c1 => ?_) (fun c1 => ?_)
      · rw [hQ]
        exact pc_vret hx hb hrt hP (by rw [← hAd]; exact hD) (by rw [← hAd]; exact hS) (by obtain rfl : i = 24 := (by omega); rfl) dX6_takeOver_28 hlocks
      · refine lv_aload_n hx hb dX6_takeOver_11 rfl (lv_at hl 0 rfl) ?_
        refine pl_get (ci := 5) (v := .ref r) (C := RX6) (T := TX6) (N := 1) hx hb hts hi_X6 hown hK hP hh ((va_up_ne _ _ (ne_k hfh hfr (by simp))).trans hfh) rfl 0 (by decide) hw_0 (fun _ h9 => h9) rfl dX6_takeOver_12 ?_
        refine lv_iload_n hx hb dX6_takeOver_15 rfl (lv_at hl 2 rfl) ?_
        refine lv_aload_n hx hb dX6_takeOver_16 rfl (lv_at hl 1 rfl) ?_
        refine lv_iload_n hx hb dX6_takeOver_17 rfl (lv_at hl 2 rfl) ?_
        refine vp_callSi (va_Run.run (va_runV (As := [.int (zI (z1))]) (rest := [.int (zI (z1)), .ref r]) ⟨hx, hb, hml, hown, hts⟩ (kX6_row l D k L (va_up f r (.inl (k 0, 24, .inl (fa_fill (fun j => rowAt g1 (j : Int)) g i)))) h1 r1 g1 hh1 ((va_up_ne _ _ (ne_k hfh1 hfr (by simp))).trans hfh1) hr1 ((va_up_ne _ _ hrr).trans hfr1) (z1) (by omega)) (cwV 1 hts gX6_takeOver_X6_row rfl rfl rfl (by decide +kernel) ⟨Nat.le_of_ble_eq_true rfl, Nat.le_of_ble_eq_true rfl⟩) (rc_preV hC hP (pl_recv hK hP hh1 ((va_up_ne _ _ (ne_k hfh1 hfr (by simp))).trans hfh1) (ci := 5) (q := (RX6, TX6, 1)) rfl)) rfl rfl hl.1 rfl (lv_room (Nat.le_of_ble_eq_true rfl)) dX6_takeOver_18 ⟨Nat.zero_le _, Nat.zero_le _⟩)) (fun r2 hr2 => ?_)
        subst hr2
        refine pl_iast (x := (rowAt g1 z1)) hx hb hK hP hD hS hr 0 (va_up_self _ _ _) rfl (i) (by omega) (by omega) (by decide) dX6_takeOver_21 (fun H locs hP hD hS => ?_)
        rw [bx_uu] at hP hD
        have hP : va_P D vwCl (va_pl L (va_up f r (.inl (k 0, 24, .inl (upd ((fa_fill (fun j => rowAt g1 (j : Int)) g i)) (i) (rowAt g1 z1)))))) H := hP
        have hD : va_D A (va_pl L (va_up f r (.inl (k 0, 24, .inl (upd ((fa_fill (fun j => rowAt g1 (j : Int)) g i)) (i) (rowAt g1 z1)))))) := hD
        refine zr_iinc (k := 2) (lv' := [(2, .int (zI (z1 + 1))), (0, .ref h), (1, .ref h1)]) hx hb dX6_takeOver_22 hl rfl (by decide) rfl (fun ls hl => ?_)
        refine lv_goto (tgt := 2) hx hb dX6_takeOver_25 (by decide) ?_
        have hg9 : ((upd ((fa_fill (fun j => rowAt g1 (j : Int)) g i)) (i) (rowAt g1 z1)) : Nat → Int32) = fa_fill (fun j => rowAt g1 (j : Int)) g (i + 1) := by rw [hz1]; exact fa_fill_succ (fun j => rowAt g1 (j : Int)) g i
        rw [hg9] at hP hD
        exact ih_2 (i + 1) (z1 + 1) (by omega) (by omega) (by omega) _ _ hP hD hS _ (lv_sub hl [1, 2, 0] rfl)
  rw [← up_id (a := r) hfr] at hP hD
  have hg9 : (g : Nat → Int32) = fa_fill (fun j => rowAt g1 (j : Int)) g (0) := by exact (fa_fill_0 _ _).symm
  rw [hg9] at hP hD
  exact cut_2 ((24 - (0) : Int).toNat + 1) (0) (0) (by omega) (by omega) (by omega) _ _ hP hD hS _ (lv_sub hl [1, 2, 0] rfl)
