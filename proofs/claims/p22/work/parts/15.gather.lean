set_option maxHeartbeats 4000000 in
set_option maxRecDepth 100000 in
theorem kX8_isPlace (l : Launch) (D : va_G) (k : Nat → ClassId) (L : List Nat) (f : Nat → va_E) (tx la ma : Nat) (n : Int) (T : Nat → Int32) (htx : tx ∈ L) (hftx : f tx = .inr (7, [.ref la, .ref ma, .int (zI n)])) (hla : la ∈ L) (hfla : f la = .inl (k 0, 24, .inl T)) (hn : 0 ≤ n ∧ n ≤ 24) (z : Int) (hz : -2147483648 ≤ z ∧ z < 2147483648) : Met l yX8_isPlace wsX8_isPlace ({ frames := 0, cells := 0, slots := 0, locals := 0 } : Room) (va_Pc [.ref tx, .int (zI (z))] (rPre D (tyL k) (va_pl L f))) (vp_Si (fun r9 => r9 = bI (plB n z))) 0 0 (fun _ => False) := by
  refine Met.ofW (cc := cX8_isPlace) (maxL := 2) (ret := (some .boolean)) (by decide) rfl ?_
  intro p e s m args below meth c s₁ B hml hv
  obtain ⟨rfl, hP, hC⟩ := hv
  have hK := hC.1
  have hNW := hC.2.1
  have hx := B.exec
  have hb := B.bytes
  have hrt := B.returns
  have hts := atoms_spec (ws := wsX8_isPlace) B.pre
  have hown : s.vm.findClass RX8 = some m.cls := findClass_of_methodNamed B.named
  have hlocks := B.notSynchronized
  have hi_X8 : ∀ w ∈ u_ws RX8 TX8 3, w ∈ wsX8_isPlace := by decide +kernel
  have hw_0 := hts (.fieldLink RX8 22 "Regionry$Text" "size" "I") (by decide +kernel)
  have hw_1 := hts (.fieldLink RX8 9 "Regionry$Text" "letters" "[I") (by decide +kernel)
  have hl := lv_entry ([.ref tx, .int (zI (z))]) (n := 2) (Nat.le_of_ble_eq_true rfl)
  rw [lg_entry_eq]
  generalize (lg_sl ([.ref tx, .int (zI (z))]) ++ List.replicate (2 - (lg_sl ([.ref tx, .int (zI (z))])).length) Slot.unset).toArray = ls at hl ⊢
  have hl : lv_has ls 2 [(0, .ref tx), (1, .int (zI (z)))] := hl
  obtain ⟨Q, hQ⟩ : ∃ Q, Q = MQ below (vp_Si (fun r9 => r9 = bI (plB n z))) ([.ref tx, .int (zI (z))] : List Value).toArray s 0 0 (fun _ => False) := ⟨_, rfl⟩
  rw [← hQ]
  refine lv_iload_n hx hb dX8_isPlace_0 rfl (lv_at hl 1 rfl) ?_
  refine zr_if_lt (tgt := 25) hx hb dX8_isPlace_1 (by decide) (by omega) (fun c1 => ?_) (fun c1 => ?_)
  · refine zr_const hx hb dX8_isPlace_25 ?_
    rw [hQ]
    refine zr_top (y := bI (plB n z)) (by first | exact bI_t (plB_t (by omega)) | exact bI_f (plB_f (by omega))) ?_
    exact rc_zret hx hb hrt (rfl) dX8_isPlace_26 hlocks
  · refine lv_iload_n hx hb dX8_isPlace_4 rfl (lv_at hl 1 rfl) ?_
    refine lv_aload_n hx hb dX8_isPlace_5 rfl (lv_at hl 0 rfl) ?_
    refine pl_get (ci := 7) (v := .int (zI (n))) (C := RX8) (T := TX8) (N := 3) hx hb hts hi_X8 hown hK hP htx hftx rfl 2 (by decide) hw_0 (fun _ h9 => h9) rfl dX8_isPlace_6 ?_
    refine zr_icmp_ge (tgt := 25) hx hb dX8_isPlace_9 (by decide) (by omega) (by omega) (fun c2 => ?_) (fun c2 => ?_)
    · refine zr_const hx hb dX8_isPlace_25 ?_
      rw [hQ]
      refine zr_top (y := bI (plB n z)) (by first | exact bI_t (plB_t (by omega)) | exact bI_f (plB_f (by omega))) ?_
      exact rc_zret hx hb hrt (rfl) dX8_isPlace_26 hlocks
    · refine lv_iload_n hx hb dX8_isPlace_12 rfl (lv_at hl 1 rfl) ?_
      refine lv_aload_n hx hb dX8_isPlace_13 rfl (lv_at hl 0 rfl) ?_
      refine pl_get (ci := 7) (v := .ref la) (C := RX8) (T := TX8) (N := 3) hx hb hts hi_X8 hown hK hP htx hftx rfl 0 (by decide) hw_1 (fun _ h9 => h9) rfl dX8_isPlace_14 ?_
      refine pl_alen (ty := .int) hx hb hK hP hla 0 hfla rfl (24) rfl dX8_isPlace_17 ?_
      refine zr_icmp_ge (tgt := 25) hx hb dX8_isPlace_18 (by decide) (by omega) (by omega) (fun c3 => ?_) (fun c3 => ?_)
      · refine zr_const hx hb dX8_isPlace_25 ?_
        rw [hQ]
        refine zr_top (y := bI (plB n z)) (by first | exact bI_t (plB_t (by omega)) | exact bI_f (plB_f (by omega))) ?_
        exact rc_zret hx hb hrt (rfl) dX8_isPlace_26 hlocks
      · refine zr_const hx hb dX8_isPlace_21 ?_
        refine lv_goto (tgt := 26) hx hb dX8_isPlace_22 (by decide) ?_
        rw [hQ]
        refine zr_top (y := bI (plB n z)) (by first | exact bI_t (plB_t (by omega)) | exact bI_f (plB_f (by omega))) ?_
        exact rc_zret hx hb hrt (rfl) dX8_isPlace_26 hlocks

set_option maxHeartbeats 4000000 in
set_option maxRecDepth 100000 in
theorem kX8_isAt (l : Launch) (D : va_G) (k : Nat → ClassId) (L : List Nat) (f : Nat → va_E) (tx la ma : Nat) (n : Int) (T : Nat → Int32) (htx : tx ∈ L) (hftx : f tx = .inr (7, [.ref la, .ref ma, .int (zI n)])) (hla : la ∈ L) (hfla : f la = .inl (k 0, 24, .inl T)) (hn : 0 ≤ n ∧ n ≤ 24) (x : Int32) (z : Int) (hz : -2147483648 ≤ z ∧ z < 2147483648) : Met l yX8_isAt wsX8_isAt ({ frames := 1, cells := 0, slots := 0, locals := 21 } : Room) (va_Pc [.ref tx, .int (x), .int (zI (z))] (rPre D (tyL k) (va_pl L f))) (vp_Si (fun r9 => r9 = bI (atB T n x z))) 0 0 (fun _ => False) := by
  refine Met.ofW (cc := cX8_isAt) (maxL := 3) (ret := (some .boolean)) (by decide) rfl ?_
  intro p e s m args below meth c s₁ B hml hv
  obtain ⟨rfl, hP, hC⟩ := hv
  have hK := hC.1
  have hNW := hC.2.1
  have hx := B.exec
  have hb := B.bytes
  have hrt := B.returns
  have hts := atoms_spec (ws := wsX8_isAt) B.pre
  have hown : s.vm.findClass RX8 = some m.cls := findClass_of_methodNamed B.named
  have hlocks := B.notSynchronized
  have hi_X8 : ∀ w ∈ u_ws RX8 TX8 3, w ∈ wsX8_isAt := by decide +kernel
  have hw_0 := hts (.fieldLink RX8 9 "Regionry$Text" "letters" "[I") (by decide +kernel)
  have hl := lv_entry ([.ref tx, .int (x), .int (zI (z))]) (n := 3) (Nat.le_of_ble_eq_true rfl)
  rw [lg_entry_eq]
  generalize (lg_sl ([.ref tx, .int (x), .int (zI (z))]) ++ List.replicate (3 - (lg_sl ([.ref tx, .int (x), .int (zI (z))])).length) Slot.unset).toArray = ls at hl ⊢
  have hl : lv_has ls 3 [(0, .ref tx), (1, .int (x)), (2, .int (zI (z)))] := hl
  obtain ⟨Q, hQ⟩ : ∃ Q, Q = MQ below (vp_Si (fun r9 => r9 = bI (atB T n x z))) ([.ref tx, .int (x), .int (zI (z))] : List Value).toArray s 0 0 (fun _ => False) := ⟨_, rfl⟩
  rw [← hQ]
  refine lv_aload_n hx hb dX8_isAt_0 rfl (lv_at hl 0 rfl) ?_
  refine lv_iload_n hx hb dX8_isAt_1 rfl (lv_at hl 2 rfl) ?_
  refine vp_callSi (va_Run.run (va_runV (As := [.int (zI (z))]) (rest := []) ⟨hx, hb, hml, hown, hts⟩ (kX8_isPlace l D k L f tx la ma n T htx hftx hla hfla (by omega) (z) (by omega)) (cwV 1 hts gX8_isAt_X8_isPlace rfl rfl rfl (by decide +kernel) ⟨Nat.le_of_ble_eq_true rfl, Nat.le_of_ble_eq_true rfl⟩) (rc_preV hC hP (pl_recv hK hP htx hftx (ci := 7) (q := (RX8, TX8, 3)) rfl)) rfl rfl hl.1 rfl (lv_room (Nat.le_of_ble_eq_true rfl)) dX8_isAt_2 ⟨Nat.zero_le _, Nat.zero_le _⟩)) (fun r1 hr1 => ?_)
  subst hr1
  refine zr_ifb_eq (tgt := 22) hx hb dX8_isAt_5 (by decide) (fun c2 => ?_) (fun c2 => ?_)
  · refine zr_const hx hb dX8_isAt_22 ?_
    rw [hQ]
    refine zr_top (y := bI (atB T n x z)) (by first | exact bI_f (atB_f1 (by assumption)) | exact bI_t (atB_t (by assumption) (by assumption)) | exact bI_f (atB_f2 (by assumption))) ?_
    exact rc_zret hx hb hrt (rfl) dX8_isAt_23 hlocks
  · have hpl := plB_r c2
    refine lv_aload_n hx hb dX8_isAt_8 rfl (lv_at hl 0 rfl) ?_
    refine pl_get (ci := 7) (v := .ref la) (C := RX8) (T := TX8) (N := 3) hx hb hts hi_X8 hown hK hP htx hftx rfl 0 (by decide) hw_0 (fun _ h9 => h9) rfl dX8_isAt_9 ?_
    refine lv_iload_n hx hb dX8_isAt_12 rfl (lv_at hl 2 rfl) ?_
    refine pl_iald hx hb hK hP hla 0 hfla rfl ((z).toNat) (by omega) (by omega) (by decide) dX8_isAt_13 ?_
    refine lv_iload_n hx hb dX8_isAt_14 rfl (lv_at hl 1 rfl) ?_
    refine lv_icmp_ne (tgt := 22) hx hb dX8_isAt_15 (by decide) (fun c3 => ?_) (fun c3 => ?_)
    · refine zr_const hx hb dX8_isAt_22 ?_
      rw [hQ]
      refine zr_top (y := bI (atB T n x z)) (by first | exact bI_f (atB_f1 (by assumption)) | exact bI_t (atB_t (by assumption) (by assumption)) | exact bI_f (atB_f2 (by assumption))) ?_
      exact rc_zret hx hb hrt (rfl) dX8_isAt_23 hlocks
    · refine zr_const hx hb dX8_isAt_18 ?_
      refine lv_goto (tgt := 23) hx hb dX8_isAt_19 (by decide) ?_
      rw [hQ]
      refine zr_top (y := bI (atB T n x z)) (by first | exact bI_f (atB_f1 (by assumption)) | exact bI_t (atB_t (by assumption) (by assumption)) | exact bI_f (atB_f2 (by assumption))) ?_
      exact rc_zret hx hb hrt (rfl) dX8_isAt_23 hlocks

set_option maxHeartbeats 4000000 in
set_option maxRecDepth 100000 in
theorem kX8_isRegion (l : Launch) (D : va_G) (k : Nat → ClassId) (L : List Nat) (f : Nat → va_E) (tx la ma : Nat) (n : Int) (T : Nat → Int32) (htx : tx ∈ L) (hftx : f tx = .inr (7, [.ref la, .ref ma, .int (zI n)])) (hla : la ∈ L) (hfla : f la = .inl (k 0, 24, .inl T)) (hn : 0 ≤ n ∧ n ≤ 24) (z : Int) (hz : -2147483648 ≤ z ∧ z < 2147483648) (y : Int) (hy : -2147483648 ≤ y ∧ y < 2147483648) : Met l yX8_isRegion wsX8_isRegion ({ frames := 1, cells := 0, slots := 0, locals := 21 } : Room) (va_Pc [.ref tx, .int (zI (z)), .int (zI (y))] (rPre D (tyL k) (va_pl L f))) (vp_Si (fun r9 => r9 = bI (rgB n z y))) 0 0 (fun _ => False) := by
  refine Met.ofW (cc := cX8_isRegion) (maxL := 3) (ret := (some .boolean)) (by decide) rfl ?_
  intro p e s m args below meth c s₁ B hml hv
  obtain ⟨rfl, hP, hC⟩ := hv
  have hK := hC.1
  have hNW := hC.2.1
  have hx := B.exec
  have hb := B.bytes
  have hrt := B.returns
  have hts := atoms_spec (ws := wsX8_isRegion) B.pre
  have hown : s.vm.findClass RX8 = some m.cls := findClass_of_methodNamed B.named
  have hlocks := B.notSynchronized
  have hi_X8 : ∀ w ∈ u_ws RX8 TX8 3, w ∈ wsX8_isRegion := by decide +kernel
  have hw_0 := hts (.fieldLink RX8 22 "Regionry$Text" "size" "I") (by decide +kernel)
  have hl := lv_entry ([.ref tx, .int (zI (z)), .int (zI (y))]) (n := 3) (Nat.le_of_ble_eq_true rfl)
  rw [lg_entry_eq]
  generalize (lg_sl ([.ref tx, .int (zI (z)), .int (zI (y))]) ++ List.replicate (3 - (lg_sl ([.ref tx, .int (zI (z)), .int (zI (y))])).length) Slot.unset).toArray = ls at hl ⊢
  have hl : lv_has ls 3 [(0, .ref tx), (1, .int (zI (z))), (2, .int (zI (y)))] := hl
  obtain ⟨Q, hQ⟩ : ∃ Q, Q = MQ below (vp_Si (fun r9 => r9 = bI (rgB n z y))) ([.ref tx, .int (zI (z)), .int (zI (y))] : List Value).toArray s 0 0 (fun _ => False) := ⟨_, rfl⟩
  rw [← hQ]
  refine lv_aload_n hx hb dX8_isRegion_0 rfl (lv_at hl 0 rfl) ?_
  refine lv_iload_n hx hb dX8_isRegion_1 rfl (lv_at hl 1 rfl) ?_
  refine vp_callSi (va_Run.run (va_runV (As := [.int (zI (z))]) (rest := []) ⟨hx, hb, hml, hown, hts⟩ (kX8_isPlace l D k L f tx la ma n T htx hftx hla hfla (by omega) (z) (by omega)) (cwV 1 hts gX8_isRegion_X8_isPlace rfl rfl rfl (by decide +kernel) ⟨Nat.le_of_ble_eq_true rfl, Nat.le_of_ble_eq_true rfl⟩) (rc_preV hC hP (pl_recv hK hP htx hftx (ci := 7) (q := (RX8, TX8, 3)) rfl)) rfl rfl hl.1 rfl (lv_room (Nat.le_of_ble_eq_true rfl)) dX8_isRegion_2 ⟨Nat.zero_le _, Nat.zero_le _⟩)) (fun r1 hr1 => ?_)
  subst hr1
  refine zr_ifb_eq (tgt := 25) hx hb dX8_isRegion_5 (by decide) (fun c2 => ?_) (fun c2 => ?_)
  · have hpl := plB_s c2
    refine zr_const hx hb dX8_isRegion_25 ?_
    rw [hQ]
    refine zr_top (y := bI (rgB n z y)) (by first | exact bI_f (rgB_f (by omega)) | exact bI_t (rgB_t (by omega))) ?_
    exact rc_zret hx hb hrt (rfl) dX8_isRegion_26 hlocks
  · have hpl := plB_r c2
    refine lv_iload_n hx hb dX8_isRegion_8 rfl (lv_at hl 2 rfl) ?_
    refine lv_iload_n hx hb dX8_isRegion_9 rfl (lv_at hl 1 rfl) ?_
    refine zr_icmp_le (tgt := 25) hx hb dX8_isRegion_10 (by decide) (by omega) (by omega) (fun c3 => ?_) (fun c3 => ?_)
    · refine zr_const hx hb dX8_isRegion_25 ?_
      rw [hQ]
      refine zr_top (y := bI (rgB n z y)) (by first | exact bI_f (rgB_f (by omega)) | exact bI_t (rgB_t (by omega))) ?_
      exact rc_zret hx hb hrt (rfl) dX8_isRegion_26 hlocks
    · refine lv_iload_n hx hb dX8_isRegion_13 rfl (lv_at hl 2 rfl) ?_
      refine lv_aload_n hx hb dX8_isRegion_14 rfl (lv_at hl 0 rfl) ?_
      refine pl_get (ci := 7) (v := .int (zI (n))) (C := RX8) (T := TX8) (N := 3) hx hb hts hi_X8 hown hK hP htx hftx rfl 2 (by decide) hw_0 (fun _ h9 => h9) rfl dX8_isRegion_15 ?_
      refine zr_icmp_gt (tgt := 25) hx hb dX8_isRegion_18 (by decide) (by omega) (by omega) (fun c4 => ?_) (fun c4 => ?_)
      · refine zr_const hx hb dX8_isRegion_25 ?_
        rw [hQ]
        refine zr_top (y := bI (rgB n z y)) (by first | exact bI_f (rgB_f (by omega)) | exact bI_t (rgB_t (by omega))) ?_
        exact rc_zret hx hb hrt (rfl) dX8_isRegion_26 hlocks
      · refine zr_const hx hb dX8_isRegion_21 ?_
        refine lv_goto (tgt := 26) hx hb dX8_isRegion_22 (by decide) ?_
        rw [hQ]
        refine zr_top (y := bI (rgB n z y)) (by first | exact bI_f (rgB_f (by omega)) | exact bI_t (rgB_t (by omega))) ?_
        exact rc_zret hx hb hrt (rfl) dX8_isRegion_26 hlocks

set_option maxHeartbeats 4000000 in
set_option maxRecDepth 100000 in
theorem kX0_needs (l : Launch) (D : va_G) (k : Nat → ClassId) (L : List Nat) (f : Nat → va_E) (h : Nat) (d : Int32) (nd : Int32) (gs as : Nat) (hh : h ∈ L) (hx9 : exAt f h d nd gs as) (z : Int) (hz : 0 ≤ z ∧ z ≤ 31) : Met l yX0_needs wsX0_needs ({ frames := 0, cells := 0, slots := 0, locals := 0 } : Room) (va_Pc [.ref h, .int (zI (z))] (rPre D (tyL k) (va_pl L f))) (vp_Si (fun r9 => r9 = bI (bt nd z.toNat))) 0 0 (fun _ => False) := by
  refine Met.ofW (cc := cX0_needs) (maxL := 2) (ret := (some .boolean)) (by decide) rfl ?_
  intro p e s m args below meth c s₁ B hml hv
  obtain ⟨rfl, hP, hC⟩ := hv
  have hK := hC.1
  have hNW := hC.2.1
  have hx := B.exec
  have hb := B.bytes
  have hrt := B.returns
  have hts := atoms_spec (ws := wsX0_needs) B.pre
  have hown : s.vm.findClass RX0 = some m.cls := findClass_of_methodNamed B.named
  have hlocks := B.notSynchronized
  have hi_X1 : ∀ w ∈ u_ws RX1 TX1 5, w ∈ wsX0_needs := by decide +kernel
  have hi_X2 : ∀ w ∈ u_ws RX2 TX2 5, w ∈ wsX0_needs := by decide +kernel
  have hi_X3 : ∀ w ∈ u_ws RX3 TX3 7, w ∈ wsX0_needs := by decide +kernel
  have hi_X4 : ∀ w ∈ u_ws RX4 TX4 6, w ∈ wsX0_needs := by decide +kernel
  have hi_X5 : ∀ w ∈ u_ws RX5 TX5 7, w ∈ wsX0_needs := by decide +kernel
  have hi_X7 : ∀ w ∈ u_ws RX7 TX7 7, w ∈ wsX0_needs := by decide +kernel
  have hw_0 := hts (.fieldLink RX0 23 "Regionry$Expression" "needed" "I") (by decide +kernel)
  have hl := lv_entry ([.ref h, .int (zI (z))]) (n := 2) (Nat.le_of_ble_eq_true rfl)
  rw [lg_entry_eq]
  generalize (lg_sl ([.ref h, .int (zI (z))]) ++ List.replicate (2 - (lg_sl ([.ref h, .int (zI (z))])).length) Slot.unset).toArray = ls at hl ⊢
  have hl : lv_has ls 2 [(0, .ref h), (1, .int (zI (z)))] := hl
  obtain ⟨Q, hQ⟩ : ∃ Q, Q = MQ below (vp_Si (fun r9 => r9 = bI (bt nd z.toNat))) ([.ref h, .int (zI (z))] : List Value).toArray s 0 0 (fun _ => False) := ⟨_, rfl⟩
  rw [← hQ]
  refine lv_aload_n hx hb dX0_needs_0 rfl (lv_at hl 0 rfl) ?_
  refine pl_getE (v := .int (nd)) hx hb hts hi_X1 hi_X2 hi_X3 hi_X4 hi_X5 hi_X7 hown hK hP hh hx9 1 (by decide) hw_0 rfl dX0_needs_1 ?_
  refine zr_const hx hb dX0_needs_4 ?_
  refine lv_iload_n hx hb dX0_needs_5 rfl (lv_at hl 1 rfl) ?_
  refine zr_shl1 hx hb (by omega) dX0_needs_6 ?_
  refine lv_iand hx hb dX0_needs_7 ?_
  refine zr_ifm_eq (tgt := 15) hx hb (by omega) dX0_needs_8 (by decide) (fun c1 => ?_) (fun c1 => ?_)
  · refine zr_const hx hb dX0_needs_15 ?_
    rw [hQ]
    refine zr_top (y := bI (bt nd z.toNat)) (by first | exact bI_t (by assumption) | exact bI_f (by assumption)) ?_
    exact rc_zret hx hb hrt (rfl) dX0_needs_16 hlocks
  · refine zr_const hx hb dX0_needs_11 ?_
    refine lv_goto (tgt := 16) hx hb dX0_needs_12 (by decide) ?_
    rw [hQ]
    refine zr_top (y := bI (bt nd z.toNat)) (by first | exact bI_t (by assumption) | exact bI_f (by assumption)) ?_
    exact rc_zret hx hb hrt (rfl) dX0_needs_16 hlocks

set_option maxHeartbeats 4000000 in
set_option maxRecDepth 100000 in
theorem kX1_gather (l : Launch) (D : va_G) (k : Nat → ClassId) (L : List Nat) (f : Nat → va_E) (h : Nat) (d : Int) (nd : Int32) (as ms r1 : Nat) (g1 : Nat → Int32) (gs r : Nat) (g : Nat → Int32) (hgs : gs ∈ L) (hfgs : f gs = .inr (5, [.ref r])) (hr : r ∈ L) (hfr : f r = .inl (k 0, 24, .inl g)) (hh : h ∈ L) (hfh : f h = .inr (0, [.int (zI d), .int nd, .ref gs, .ref as, .ref ms])) (hms : ms ∈ L) (hfms : f ms = .inr (5, [.ref r1])) (hr1 : r1 ∈ L) (hfr1 : f r1 = .inl (k 0, 24, .inl g1)) (hrr1 : r1 ≠ r) (tx : Nat) (n0 sz : Nat) : Met l yX1_gather wsX1_gather ({ frames := 2, cells := 0, slots := 0, locals := 43 } : Room) (va_Pc [.ref h, .ref tx] (pPre D (tyL k) n0 (va_pl L f) sz)) (va_Qv (fun u => u = va_pl L (va_up f r (.inl (k 0, 24, .inl (fa_fill (fun j => rowAt g1 (j : Int)) g 24))))) (pB D (va_pl L f) sz) (va_A (va_pl L f) sz)) 0 0 (va_A (va_pl L f) sz) := by
  refine Met.ofW (cc := cX1_gather) (maxL := 2) (ret := none) (by decide) rfl ?_
  intro p e s m args below meth c s₁ B hml hv
  obtain ⟨rfl, hsz, hn9, hP, hC, hD0⟩ := hv
  have hK := hC.1
  have hNW := hC.2.1
  have hx := B.exec
  have hb := B.bytes
  have hrt := B.returns
  have hts := atoms_spec (ws := wsX1_gather) B.pre
  have hown : s.vm.findClass RX1 = some m.cls := findClass_of_methodNamed B.named
  have hlocks := B.notSynchronized
  subst hsz
  obtain ⟨A, hAd⟩ : ∃ A, A = va_A (va_pl L f) s.heap.size := ⟨_, rfl⟩
  have hD := hD0.self (sz := s.heap.size)
  rw [← hAd] at hD
  have hA : ∀ q : Nat, s.heap.size ≤ q → A q := fun q h => by rw [hAd]; exact Or.inr h
  have hAn : ∀ q : Nat, A q → n0 ≤ q := fun q h => by
    rw [hAd] at h
    rcases h with ⟨k9, e9, hk9⟩ | h
    · exact hD0.2 k9 _ hk9
    · exact Nat.le_trans hn9 h
  have hS : va_S A s.heap s.heap [] := va_S.rf
  have hi_X1 : ∀ w ∈ u_ws RX1 TX1 5, w ∈ wsX1_gather := by decide +kernel
  have hw_0 := hts (.fieldLink RX1 13 "Regionry$KindExpression" "gathered" "LRegionry$RegionSet;") (by decide +kernel)
  have hw_1 := hts (.sameField "Regionry$KindExpression" "Regionry$Expression" "gathered" "LRegionry$RegionSet;") (by decide +kernel)
  have hw_2 := hts (.fieldLink RX1 7 "Regionry$KindExpression" "marks" "LRegionry$RegionSet;") (by decide +kernel)
  have hl := lv_entry ([.ref h, .ref tx]) (n := 2) (Nat.le_of_ble_eq_true rfl)
  rw [lg_entry_eq]
  generalize (lg_sl ([.ref h, .ref tx]) ++ List.replicate (2 - (lg_sl ([.ref h, .ref tx])).length) Slot.unset).toArray = ls at hl ⊢
  have hl : lv_has ls 2 [(0, .ref h), (1, .ref tx)] := hl
  obtain ⟨Q, hQ⟩ : ∃ Q, Q = MQ below (va_Qv (fun u => u = va_pl L (va_up f r (.inl (k 0, 24, .inl (fa_fill (fun j => rowAt g1 (j : Int)) g 24))))) (pB D (va_pl L f) s.heap.size) (va_A (va_pl L f) s.heap.size)) ([.ref h, .ref tx] : List Value).toArray s 0 0 (va_A (va_pl L f) s.heap.size) := ⟨_, rfl⟩
  rw [← hQ]
  refine lv_aload_n hx hb dX1_gather_0 rfl (lv_at hl 0 rfl) ?_
  refine pl_get (ci := 0) (v := .ref gs) (C := RX1) (T := TX1) (N := 5) hx hb hts hi_X1 hown hK hP hh hfh rfl 2 (by decide) hw_0 (u_same hw_1) rfl dX1_gather_1 ?_
  refine lv_aload_n hx hb dX1_gather_4 rfl (lv_at hl 0 rfl) ?_
  refine pl_get (ci := 0) (v := .ref ms) (C := RX1) (T := TX1) (N := 5) hx hb hts hi_X1 hown hK hP hh hfh rfl 4 (by decide) hw_2 (fun _ h9 => h9) rfl dX1_gather_5 ?_
  refine pc_callv (va_runV (As := [.ref ms]) (rest := []) ⟨hx, hb, hml, hown, hts⟩ (kX6_takeOver l D k L f gs r g hgs hfgs hr hfr ms r1 g1 hms hfms hr1 hfr1 hrr1 n0 _) (cwV 1 hts gX1_gather_X6_takeOver rfl rfl rfl (by decide +kernel) ⟨Nat.le_of_ble_eq_true rfl, Nat.le_of_ble_eq_true rfl⟩) (pc_preV hC hP (Nat.le_trans hn9 hS.1) hD hAn (pl_recv hK hP hgs hfgs (ci := 5) (q := (RX6, TX6, 1)) rfl)) rfl rfl hl.1 rfl (lv_room (Nat.le_of_ble_eq_true rfl)) dX1_gather_8 ⟨Nat.zero_le _, Nat.zero_le _⟩) hD hS hA (fun ur1 H locs hr1 hP hD hS hzr1 => ?_)
  subst hr1
  have hP : va_P D vwCl (va_pl L (va_up f r (.inl (k 0, 24, .inl (fa_fill (fun j => rowAt g1 (j : Int)) g 24))))) H := hP
  have hD : va_D A (va_pl L (va_up f r (.inl (k 0, 24, .inl (fa_fill (fun j => rowAt g1 (j : Int)) g 24))))) := hD
  rw [hQ]
  exact pc_vret hx hb hrt hP (by rw [← hAd]; exact hD) (by rw [← hAd]; exact hS) (rfl) dX1_gather_11 hlocks

set_option maxHeartbeats 4000000 in
set_option maxRecDepth 100000 in
theorem kX2_gather (l : Launch) (D : va_G) (k : Nat → ClassId) (L : List Nat) (f : Nat → va_E) (h : Nat) (d : Int) (nd : Int32) (as : Nat) (x : Int32) (gs r : Nat) (g : Nat → Int32) (hgs : gs ∈ L) (hfgs : f gs = .inr (5, [.ref r])) (hr : r ∈ L) (hfr : f r = .inl (k 0, 24, .inl g)) (hh : h ∈ L) (hfh : f h = .inr (1, [.int (zI d), .int nd, .ref gs, .ref as, .int x])) (tx la ma : Nat) (n : Int) (T : Nat → Int32) (htx : tx ∈ L) (hftx : f tx = .inr (7, [.ref la, .ref ma, .int (zI n)])) (hla : la ∈ L) (hfla : f la = .inl (k 0, 24, .inl T)) (hn : 0 ≤ n ∧ n ≤ 24) (hrla : la ≠ r) (n0 sz : Nat) : Met l yX2_gather wsX2_gather ({ frames := 2, cells := 0, slots := 0, locals := 43 } : Room) (va_Pc [.ref h, .ref tx] (pPre D (tyL k) n0 (va_pl L f) sz)) (va_Qv (fun u => u = va_pl L (va_up f r (.inl (k 0, 24, .inl (ltF T x g n.toNat))))) (pB D (va_pl L f) sz) (va_A (va_pl L f) sz)) 0 0 (va_A (va_pl L f) sz) := by
  refine Met.ofW (cc := cX2_gather) (maxL := 3) (ret := none) (by decide) rfl ?_
  intro p e s m args below meth c s₁ B hml hv
  obtain ⟨rfl, hsz, hn9, hP, hC, hD0⟩ := hv
  have hK := hC.1
  have hNW := hC.2.1
  have hx := B.exec
  have hb := B.bytes
  have hrt := B.returns
  have hts := atoms_spec (ws := wsX2_gather) B.pre
  have hown : s.vm.findClass RX2 = some m.cls := findClass_of_methodNamed B.named
  have hlocks := B.notSynchronized
  subst hsz
  obtain ⟨A, hAd⟩ : ∃ A, A = va_A (va_pl L f) s.heap.size := ⟨_, rfl⟩
  have hD := hD0.self (sz := s.heap.size)
  rw [← hAd] at hD
  have hA : ∀ q : Nat, s.heap.size ≤ q → A q := fun q h => by rw [hAd]; exact Or.inr h
  have hAn : ∀ q : Nat, A q → n0 ≤ q := fun q h => by
    rw [hAd] at h
    rcases h with ⟨k9, e9, hk9⟩ | h
    · exact hD0.2 k9 _ hk9
    · exact Nat.le_trans hn9 h
  have hS : va_S A s.heap s.heap [] := va_S.rf
  have hi_X2 : ∀ w ∈ u_ws RX2 TX2 5, w ∈ wsX2_gather := by decide +kernel
  have hi_X8 : ∀ w ∈ u_ws RX8 TX8 3, w ∈ wsX2_gather := by decide +kernel
  have hw_0 := hts (.fieldLink RX2 13 "Regionry$LetterExpression" "gathered" "LRegionry$RegionSet;") (by decide +kernel)
  have hw_1 := hts (.sameField "Regionry$LetterExpression" "Regionry$Expression" "gathered" "LRegionry$RegionSet;") (by decide +kernel)
  have hw_2 := hts (.fieldLink RX2 7 "Regionry$LetterExpression" "sought" "I") (by decide +kernel)
  have hl := lv_entry ([.ref h, .ref tx]) (n := 3) (Nat.le_of_ble_eq_true rfl)
  rw [lg_entry_eq]
  generalize (lg_sl ([.ref h, .ref tx]) ++ List.replicate (3 - (lg_sl ([.ref h, .ref tx])).length) Slot.unset).toArray = ls at hl ⊢
  have hl : lv_has ls 3 [(0, .ref h), (1, .ref tx)] := hl
  obtain ⟨Q, hQ⟩ : ∃ Q, Q = MQ below (va_Qv (fun u => u = va_pl L (va_up f r (.inl (k 0, 24, .inl (ltF T x g n.toNat))))) (pB D (va_pl L f) s.heap.size) (va_A (va_pl L f) s.heap.size)) ([.ref h, .ref tx] : List Value).toArray s 0 0 (va_A (va_pl L f) s.heap.size) := ⟨_, rfl⟩
  rw [← hQ]
  refine lv_aload_n hx hb dX2_gather_0 rfl (lv_at hl 0 rfl) ?_
  refine pl_get (ci := 1) (v := .ref gs) (C := RX2) (T := TX2) (N := 5) hx hb hts hi_X2 hown hK hP hh hfh rfl 2 (by decide) hw_0 (u_same hw_1) rfl dX2_gather_1 ?_
  refine pc_callv (va_runV (As := []) (rest := []) ⟨hx, hb, hml, hown, hts⟩ (kX6_clear l D k L f gs r g hgs hfgs hr hfr  n0 _) (cwV 0 hts gX2_gather_X6_clear rfl rfl rfl (by decide +kernel) ⟨Nat.le_of_ble_eq_true rfl, Nat.le_of_ble_eq_true rfl⟩) (pc_preV hC hP (Nat.le_trans hn9 hS.1) hD hAn (pl_recv hK hP hgs hfgs (ci := 5) (q := (RX6, TX6, 1)) rfl)) rfl rfl hl.1 rfl (lv_room (Nat.le_of_ble_eq_true rfl)) dX2_gather_4 ⟨Nat.zero_le _, Nat.zero_le _⟩) hD hS hA (fun ur1 H locs hr1 hP hD hS hzr1 => ?_)
  subst hr1
  have hP : va_P D vwCl (va_pl L (va_up f r (.inl (k 0, 24, .inl (fa_fill (fun _ => zI 0) g 24))))) H := hP
  have hD : va_D A (va_pl L (va_up f r (.inl (k 0, 24, .inl (fa_fill (fun _ => zI 0) g 24))))) := hD
  refine zr_const hx hb dX2_gather_7 ?_
  refine lv_istore_n (lv' := [(2, .int (zI (0))), (0, .ref h), (1, .ref tx)]) hx hb dX2_gather_8 rfl hl (by decide) rfl (fun ls hl => ?_)
  have cut_9 : ∀ (n9 : Nat) (i : Nat) (z2 : Int), ((i : Int) ≤ n) → (z2 = i) → n - z2 < (n9 : Int) → ∀ (H : Heap) (locs : List Loc), va_P D vwCl (va_pl L (va_up f r (.inl (k 0, 24, .inl (ltF T x g i))))) H → va_D A (va_pl L (va_up f r (.inl (k 0, 24, .inl (ltF T x g i))))) → va_S A s.heap H locs → ∀ (ls : Array Slot), lv_has ls 3 [(0, .ref h), (1, .ref tx), (2, .int (zI (z2)))] → W p l e (headSpec wsX2_gather ({ frames := 2, cells := 0, slots := 0, locals := 43 } : Room)).room s m ([.ref h, .ref tx] : List Value).toArray below meth c H locs 0 0 Q (F0 m 9 ls []) := by
    intro n9
    induction n9 with
    | zero =>
      intro i z2 hi hz2 hfu
      exact absurd hfu (by omega)
    | succ n9 ih_9 =>
      intro i z2 hi hz2 hfu H locs hP hD hS ls hl
      refine lv_iload_n hx hb dX2_gather_9 rfl (lv_at hl 2 rfl) ?_
      refine lv_aload_n hx hb dX2_gather_10 rfl (lv_at hl 1 rfl) ?_
      refine pl_getN (host := "Regionry") (ci := 7) (v := .int (zI (n))) (C := RX8) (T := TX8) (N := 3) hx hb hts hi_X8 hown hK hP htx ((va_up_ne _ _ (ne_k hftx hfr (by simp))).trans hftx) rfl 2 (by decide) (va_Nw.use rfl (hNW (.fieldLinkNest RX2 23 "Regionry$Text" "size" "I" "Regionry") (by decide +kernel))) (fun _ h9 => h9) rfl dX2_gather_11 ?_
      refine zr_icmp_ge (tgt := 46) hx hb dX2_gather_14 (by decide) (by omega) (by omega) (fun c2 => ?_) (fun c2 => ?_)
      · rw [hQ]
        exact pc_vret hx hb hrt hP (by rw [← hAd]; exact hD) (by rw [← hAd]; exact hS) (by obtain rfl : i = n.toNat := (by omega); rfl) dX2_gather_46 hlocks
      · refine lv_aload_n hx hb dX2_gather_17 rfl (lv_at hl 1 rfl) ?_
        refine lv_aload_n hx hb dX2_gather_18 rfl (lv_at hl 0 rfl) ?_
        refine pl_get (ci := 1) (v := .int (x)) (C := RX2) (T := TX2) (N := 5) hx hb hts hi_X2 hown hK hP hh ((va_up_ne _ _ (ne_k hfh hfr (by simp))).trans hfh) rfl 4 (by decide) hw_2 (fun _ h9 => h9) rfl dX2_gather_19 ?_
        refine lv_iload_n hx hb dX2_gather_22 rfl (lv_at hl 2 rfl) ?_
        refine vp_callSi (va_Run.run (va_runV (As := [.int (x), .int (zI (z2))]) (rest := []) ⟨hx, hb, hml, hown, hts⟩ (kX8_isAt l D k L (va_up f r (.inl (k 0, 24, .inl (ltF T x g i)))) tx la ma n T htx ((va_up_ne _ _ (ne_k hftx hfr (by simp))).trans hftx) hla ((va_up_ne _ _ hrla).trans hfla) (by omega) x (z2) (by omega)) (cwV 2 hts gX2_gather_X8_isAt rfl rfl rfl (by decide +kernel) ⟨Nat.le_of_ble_eq_true rfl, Nat.le_of_ble_eq_true rfl⟩) (rc_preV hC hP (pl_recv hK hP htx ((va_up_ne _ _ (ne_k hftx hfr (by simp))).trans hftx) (ci := 7) (q := (RX8, TX8, 3)) rfl)) rfl rfl hl.1 rfl (lv_room (Nat.le_of_ble_eq_true rfl)) dX2_gather_23 ⟨Nat.zero_le _, Nat.zero_le _⟩)) (fun r3 hr3 => ?_)
        subst hr3
        refine zr_ifb_eq (tgt := 40) hx hb dX2_gather_26 (by decide) (fun c4 => ?_) (fun c4 => ?_)
        · refine zr_iinc (k := 2) (lv' := [(2, .int (zI (z2 + 1))), (0, .ref h), (1, .ref tx)]) hx hb dX2_gather_40 hl rfl (by decide) rfl (fun ls hl => ?_)
          refine lv_goto (tgt := 9) hx hb dX2_gather_43 (by decide) ?_
          have hg9 : ((ltF T x g i) : Nat → Int32) = ltF T x g (i + 1) := by first | exact lt_s1 (by omega) hz2 (by assumption) | exact lt_s0 (n := n) (by omega) hz2 (by assumption)
          rw [hg9] at hP hD
          exact ih_9 (i + 1) (z2 + 1) (by omega) (by omega) (by omega) _ _ hP hD hS _ (lv_sub hl [1, 2, 0] rfl)
        · refine lv_aload_n hx hb dX2_gather_29 rfl (lv_at hl 0 rfl) ?_
          refine pl_get (ci := 1) (v := .ref gs) (C := RX2) (T := TX2) (N := 5) hx hb hts hi_X2 hown hK hP hh ((va_up_ne _ _ (ne_k hfh hfr (by simp))).trans hfh) rfl 2 (by decide) hw_0 (u_same hw_1) rfl dX2_gather_30 ?_
          refine lv_iload_n hx hb dX2_gather_33 rfl (lv_at hl 2 rfl) ?_
          refine lv_iload_n hx hb dX2_gather_34 rfl (lv_at hl 2 rfl) ?_
          refine zr_const hx hb dX2_gather_35 ?_
          refine zr_add hx hb dX2_gather_36 ?_
          refine pc_callv (va_runV (As := [.int (zI (z2)), .int (zI (z2 + 1))]) (rest := []) ⟨hx, hb, hml, hown, hts⟩ (kX6_add l D k L (va_up f r (.inl (k 0, 24, .inl (ltF T x g i)))) gs r ((ltF T x g i)) hgs ((va_up_ne _ _ (ne_k hfgs hfr (by simp))).trans hfgs) hr (va_up_self _ _ _) (z2) (by omega) (z2 + 1) (by omega) n0 _) (cwV 2 hts gX2_gather_X6_add rfl rfl rfl (by decide +kernel) ⟨Nat.le_of_ble_eq_true rfl, Nat.le_of_ble_eq_true rfl⟩) (pc_preV hC hP (Nat.le_trans hn9 hS.1) hD hAn (pl_recv hK hP hgs ((va_up_ne _ _ (ne_k hfgs hfr (by simp))).trans hfgs) (ci := 5) (q := (RX6, TX6, 1)) rfl)) rfl rfl hl.1 rfl (lv_room (Nat.le_of_ble_eq_true rfl)) dX2_gather_37 ⟨Nat.zero_le _, Nat.zero_le _⟩) hD hS hA (fun ur5 H locs hr5 hP hD hS hzr5 => ?_)
          subst hr5
          rw [bx_uu] at hP hD
          have hP : va_P D vwCl (va_pl L (va_up f r (.inl (k 0, 24, .inl (addR ((ltF T x g i)) z2 (z2 + 1)))))) H := hP
          have hD : va_D A (va_pl L (va_up f r (.inl (k 0, 24, .inl (addR ((ltF T x g i)) z2 (z2 + 1)))))) := hD
          refine zr_iinc (k := 2) (lv' := [(2, .int (zI (z2 + 1))), (0, .ref h), (1, .ref tx)]) hx hb dX2_gather_40 hl rfl (by decide) rfl (fun ls hl => ?_)
          refine lv_goto (tgt := 9) hx hb dX2_gather_43 (by decide) ?_
          have hg9 : ((addR ((ltF T x g i)) z2 (z2 + 1)) : Nat → Int32) = ltF T x g (i + 1) := by first | exact lt_s1 (by omega) hz2 (by assumption) | exact lt_s0 (n := n) (by omega) hz2 (by assumption)
          rw [hg9] at hP hD
          exact ih_9 (i + 1) (z2 + 1) (by omega) (by omega) (by omega) _ _ hP hD hS _ (lv_sub hl [1, 2, 0] rfl)
  have hg9 : ((fa_fill (fun _ => zI 0) g 24) : Nat → Int32) = ltF T x g (0) := by exact lt_00 T x g
  rw [hg9] at hP hD
  exact cut_9 ((n - (0) : Int).toNat + 1) (0) (0) (by omega) (by omega) (by omega) _ _ hP hD hS _ (lv_sub hl [1, 2, 0] rfl)

set_option maxHeartbeats 4000000 in
set_option maxRecDepth 100000 in
theorem kX3_gather (l : Launch) (D : va_G) (k : Nat → ClassId) (L : List Nat) (f : Nat → va_E) (h : Nat) (d : Int) (nd : Int32) (as : Nat) (v : Int) (hv9 : 0 ≤ v ∧ v ≤ 24) (o1 : Nat) (d1 : Int) (n1 : Int32) (gs1 as1 : Nat) (hd1 : -100 ≤ d1 ∧ d1 ≤ 100) (ho1 : o1 ∈ L) (hx1 : exAt f o1 (zI d1) n1 gs1 as1) (o2 : Nat) (d2 : Int) (n2 : Int32) (gs2 as2 : Nat) (hd2 : -100 ≤ d2 ∧ d2 ≤ 100) (ho2 : o2 ∈ L) (hx2 : exAt f o2 (zI d2) n2 gs2 as2) (gs r : Nat) (g : Nat → Int32) (hgs : gs ∈ L) (hfgs : f gs = .inr (5, [.ref r])) (hr : r ∈ L) (hfr : f r = .inl (k 0, 24, .inl g)) (r1 : Nat) (g1 : Nat → Int32) (hgs1 : gs1 ∈ L) (hfgs1 : f gs1 = .inr (5, [.ref r1])) (hr1 : r1 ∈ L) (hfr1 : f r1 = .inl (k 0, 24, .inl g1)) (hrr1 : r1 ≠ r) (r2 : Nat) (g2 : Nat → Int32) (hgs2 : gs2 ∈ L) (hfgs2 : f gs2 = .inr (5, [.ref r2])) (hr2 : r2 ∈ L) (hfr2 : f r2 = .inl (k 0, 24, .inl g2)) (hrr2 : r2 ≠ r) (hh : h ∈ L) (hfh : f h = .inr (2, [.int (zI d), .int nd, .ref gs, .ref as, .ref o1, .ref o2, .int (zI v)])) (tx : Nat) (n0 sz : Nat) : Met l yX3_gather wsX3_gather ({ frames := 3, cells := 0, slots := 0, locals := 66 } : Room) (va_Pc [.ref h, .ref tx] (pPre D (tyL k) n0 (va_pl L f) sz)) (va_Qv (fun u => u = va_pl L (va_up f r (.inl (k 0, 24, .inl (fa_fill (jnF g1 g2 v) g 24))))) (pB D (va_pl L f) sz) (va_A (va_pl L f) sz)) 0 0 (va_A (va_pl L f) sz) := by
  refine Met.ofW (cc := cX3_gather) (maxL := 2) (ret := none) (by decide) rfl ?_
  intro p e s m args below meth c s₁ B hml hv
  obtain ⟨rfl, hsz, hn9, hP, hC, hD0⟩ := hv
  have hK := hC.1
  have hNW := hC.2.1
  have hx := B.exec
  have hb := B.bytes
  have hrt := B.returns
  have hts := atoms_spec (ws := wsX3_gather) B.pre
  have hown : s.vm.findClass RX3 = some m.cls := findClass_of_methodNamed B.named
  have hlocks := B.notSynchronized
  subst hsz
  obtain ⟨A, hAd⟩ : ∃ A, A = va_A (va_pl L f) s.heap.size := ⟨_, rfl⟩
  have hD := hD0.self (sz := s.heap.size)
  rw [← hAd] at hD
  have hA : ∀ q : Nat, s.heap.size ≤ q → A q := fun q h => by rw [hAd]; exact Or.inr h
  have hAn : ∀ q : Nat, A q → n0 ≤ q := fun q h => by
    rw [hAd] at h
    rcases h with ⟨k9, e9, hk9⟩ | h
    · exact hD0.2 k9 _ hk9
    · exact Nat.le_trans hn9 h
  have hS : va_S A s.heap s.heap [] := va_S.rf
  have hi_X3 : ∀ w ∈ u_ws RX3 TX3 7, w ∈ wsX3_gather := by decide +kernel
  have hi_X1 : ∀ w ∈ u_ws RX1 TX1 5, w ∈ wsX3_gather := by decide +kernel
  have hi_X2 : ∀ w ∈ u_ws RX2 TX2 5, w ∈ wsX3_gather := by decide +kernel
  have hi_X4 : ∀ w ∈ u_ws RX4 TX4 6, w ∈ wsX3_gather := by decide +kernel
  have hi_X5 : ∀ w ∈ u_ws RX5 TX5 7, w ∈ wsX3_gather := by decide +kernel
  have hi_X7 : ∀ w ∈ u_ws RX7 TX7 7, w ∈ wsX3_gather := by decide +kernel
  have hw_0 := hts (.fieldLink RX3 29 "Regionry$NearExpression" "gathered" "LRegionry$RegionSet;") (by decide +kernel)
  have hw_1 := hts (.sameField "Regionry$NearExpression" "Regionry$Expression" "gathered" "LRegionry$RegionSet;") (by decide +kernel)
  have hw_2 := hts (.fieldLink RX3 17 "Regionry$NearExpression" "one" "LRegionry$Expression;") (by decide +kernel)
  have hw_3 := hts (.fieldLink RX3 33 "Regionry$Expression" "gathered" "LRegionry$RegionSet;") (by decide +kernel)
  have hw_4 := hts (.fieldLink RX3 23 "Regionry$NearExpression" "other" "LRegionry$Expression;") (by decide +kernel)
  have hw_5 := hts (.fieldLink RX3 26 "Regionry$NearExpression" "gap" "I") (by decide +kernel)
  have hl := lv_entry ([.ref h, .ref tx]) (n := 2) (Nat.le_of_ble_eq_true rfl)
  rw [lg_entry_eq]
  generalize (lg_sl ([.ref h, .ref tx]) ++ List.replicate (2 - (lg_sl ([.ref h, .ref tx])).length) Slot.unset).toArray = ls at hl ⊢
  have hl : lv_has ls 2 [(0, .ref h), (1, .ref tx)] := hl
  obtain ⟨Q, hQ⟩ : ∃ Q, Q = MQ below (va_Qv (fun u => u = va_pl L (va_up f r (.inl (k 0, 24, .inl (fa_fill (jnF g1 g2 v) g 24))))) (pB D (va_pl L f) s.heap.size) (va_A (va_pl L f) s.heap.size)) ([.ref h, .ref tx] : List Value).toArray s 0 0 (va_A (va_pl L f) s.heap.size) := ⟨_, rfl⟩
  rw [← hQ]
  refine lv_aload_n hx hb dX3_gather_0 rfl (lv_at hl 0 rfl) ?_
  refine pl_get (ci := 2) (v := .ref gs) (C := RX3) (T := TX3) (N := 7) hx hb hts hi_X3 hown hK hP hh hfh rfl 2 (by decide) hw_0 (u_same hw_1) rfl dX3_gather_1 ?_
  refine lv_aload_n hx hb dX3_gather_4 rfl (lv_at hl 0 rfl) ?_
  refine pl_get (ci := 2) (v := .ref o1) (C := RX3) (T := TX3) (N := 7) hx hb hts hi_X3 hown hK hP hh hfh rfl 4 (by decide) hw_2 (fun _ h9 => h9) rfl dX3_gather_5 ?_
  refine pl_getE (v := .ref gs1) hx hb hts hi_X1 hi_X2 hi_X3 hi_X4 hi_X5 hi_X7 hown hK hP ho1 hx1 2 (by decide) hw_3 rfl dX3_gather_8 ?_
  refine lv_aload_n hx hb dX3_gather_11 rfl (lv_at hl 0 rfl) ?_
  refine pl_get (ci := 2) (v := .ref o2) (C := RX3) (T := TX3) (N := 7) hx hb hts hi_X3 hown hK hP hh hfh rfl 5 (by decide) hw_4 (fun _ h9 => h9) rfl dX3_gather_12 ?_
  refine pl_getE (v := .ref gs2) hx hb hts hi_X1 hi_X2 hi_X3 hi_X4 hi_X5 hi_X7 hown hK hP ho2 hx2 2 (by decide) hw_3 rfl dX3_gather_15 ?_
  refine lv_aload_n hx hb dX3_gather_18 rfl (lv_at hl 0 rfl) ?_
  refine pl_get (ci := 2) (v := .int (zI (v))) (C := RX3) (T := TX3) (N := 7) hx hb hts hi_X3 hown hK hP hh hfh rfl 6 (by decide) hw_5 (fun _ h9 => h9) rfl dX3_gather_19 ?_
  refine pc_callv (va_runV (As := [.ref gs1, .ref gs2, .int (zI (v))]) (rest := []) ⟨hx, hb, hml, hown, hts⟩ (kX6_join l D k L f gs r g hgs hfgs hr hfr gs1 r1 g1 hgs1 hfgs1 hr1 hfr1 hrr1 gs2 r2 g2 hgs2 hfgs2 hr2 hfr2 hrr2 (v) (by omega) n0 _) (cwV 3 hts gX3_gather_X6_join rfl rfl rfl (by decide +kernel) ⟨Nat.le_of_ble_eq_true rfl, Nat.le_of_ble_eq_true rfl⟩) (pc_preV hC hP (Nat.le_trans hn9 hS.1) hD hAn (pl_recv hK hP hgs hfgs (ci := 5) (q := (RX6, TX6, 1)) rfl)) rfl rfl hl.1 rfl (lv_room (Nat.le_of_ble_eq_true rfl)) dX3_gather_22 ⟨Nat.zero_le _, Nat.zero_le _⟩) hD hS hA (fun ur1 H locs hr1 hP hD hS hzr1 => ?_)
  subst hr1
  have hP : va_P D vwCl (va_pl L (va_up f r (.inl (k 0, 24, .inl (fa_fill (jnF g1 g2 v) g 24))))) H := hP
  have hD : va_D A (va_pl L (va_up f r (.inl (k 0, 24, .inl (fa_fill (jnF g1 g2 v) g 24))))) := hD
  rw [hQ]
  exact pc_vret hx hb hrt hP (by rw [← hAd]; exact hD) (by rw [← hAd]; exact hS) (rfl) dX3_gather_25 hlocks

set_option maxHeartbeats 4000000 in
set_option maxRecDepth 100000 in
theorem kX4_gather (l : Launch) (D : va_G) (k : Nat → ClassId) (L : List Nat) (f : Nat → va_E) (h : Nat) (d : Int) (nd : Int32) (as : Nat) (b9 : Bool) (o1 : Nat) (d1 : Int) (n1 : Int32) (gs1 as1 : Nat) (hd1 : -100 ≤ d1 ∧ d1 ≤ 100) (ho1 : o1 ∈ L) (hx1 : exAt f o1 (zI d1) n1 gs1 as1) (gs r : Nat) (g : Nat → Int32) (hgs : gs ∈ L) (hfgs : f gs = .inr (5, [.ref r])) (hr : r ∈ L) (hfr : f r = .inl (k 0, 24, .inl g)) (r1 : Nat) (g1 : Nat → Int32) (hgs1 : gs1 ∈ L) (hfgs1 : f gs1 = .inr (5, [.ref r1])) (hr1 : r1 ∈ L) (hfr1 : f r1 = .inl (k 0, 24, .inl g1)) (hrr1 : r1 ≠ r) (hh : h ∈ L) (hfh : f h = .inr (3, [.int (zI d), .int nd, .ref gs, .ref as, .ref o1, .int (bI b9)])) (tx : Nat) (n0 sz : Nat) : Met l yX4_gather wsX4_gather ({ frames := 3, cells := 0, slots := 0, locals := 67 } : Room) (va_Pc [.ref h, .ref tx] (pPre D (tyL k) n0 (va_pl L f) sz)) (va_Qv (fun u => u = va_pl L (va_up f r (.inl (k 0, 24, .inl (if b9 = true then fa_fill (koF (fa_fill (fun j => rowAt g1 (j : Int)) g 24)) (fa_fill (fun j => rowAt g1 (j : Int)) g 24) 24 else fa_fill (kiF (fa_fill (fun j => rowAt g1 (j : Int)) g 24)) (fa_fill (fun j => rowAt g1 (j : Int)) g 24) 24))))) (pB D (va_pl L f) sz) (va_A (va_pl L f) sz)) 0 0 (va_A (va_pl L f) sz) := by
  refine Met.ofW (cc := cX4_gather) (maxL := 2) (ret := none) (by decide) rfl ?_
  intro p e s m args below meth c s₁ B hml hv
  obtain ⟨rfl, hsz, hn9, hP, hC, hD0⟩ := hv
  have hK := hC.1
  have hNW := hC.2.1
  have hx := B.exec
  have hb := B.bytes
  have hrt := B.returns
  have hts := atoms_spec (ws := wsX4_gather) B.pre
  have hown : s.vm.findClass RX4 = some m.cls := findClass_of_methodNamed B.named
  have hlocks := B.notSynchronized
  subst hsz
  obtain ⟨A, hAd⟩ : ∃ A, A = va_A (va_pl L f) s.heap.size := ⟨_, rfl⟩
  have hD := hD0.self (sz := s.heap.size)
  rw [← hAd] at hD
  have hA : ∀ q : Nat, s.heap.size ≤ q → A q := fun q h => by rw [hAd]; exact Or.inr h
  have hAn : ∀ q : Nat, A q → n0 ≤ q := fun q h => by
    rw [hAd] at h
    rcases h with ⟨k9, e9, hk9⟩ | h
    · exact hD0.2 k9 _ hk9
    · exact Nat.le_trans hn9 h
  have hS : va_S A s.heap s.heap [] := va_S.rf
  have hi_X4 : ∀ w ∈ u_ws RX4 TX4 6, w ∈ wsX4_gather := by decide +kernel
  have hi_X1 : ∀ w ∈ u_ws RX1 TX1 5, w ∈ wsX4_gather := by decide +kernel
  have hi_X2 : ∀ w ∈ u_ws RX2 TX2 5, w ∈ wsX4_gather := by decide +kernel
  have hi_X3 : ∀ w ∈ u_ws RX3 TX3 7, w ∈ wsX4_gather := by decide +kernel
  have hi_X5 : ∀ w ∈ u_ws RX5 TX5 7, w ∈ wsX4_gather := by decide +kernel
  have hi_X7 : ∀ w ∈ u_ws RX7 TX7 7, w ∈ wsX4_gather := by decide +kernel
  have hw_0 := hts (.fieldLink RX4 27 "Regionry$OnlyExpression" "gathered" "LRegionry$RegionSet;") (by decide +kernel)
  have hw_1 := hts (.sameField "Regionry$OnlyExpression" "Regionry$Expression" "gathered" "LRegionry$RegionSet;") (by decide +kernel)
  have hw_2 := hts (.fieldLink RX4 17 "Regionry$OnlyExpression" "part" "LRegionry$Expression;") (by decide +kernel)
  have hw_3 := hts (.fieldLink RX4 31 "Regionry$Expression" "gathered" "LRegionry$RegionSet;") (by decide +kernel)
  have hw_4 := hts (.fieldLink RX4 23 "Regionry$OnlyExpression" "isOuter" "Z") (by decide +kernel)
  have hl := lv_entry ([.ref h, .ref tx]) (n := 2) (Nat.le_of_ble_eq_true rfl)
  rw [lg_entry_eq]
  generalize (lg_sl ([.ref h, .ref tx]) ++ List.replicate (2 - (lg_sl ([.ref h, .ref tx])).length) Slot.unset).toArray = ls at hl ⊢
  have hl : lv_has ls 2 [(0, .ref h), (1, .ref tx)] := hl
  obtain ⟨Q, hQ⟩ : ∃ Q, Q = MQ below (va_Qv (fun u => u = va_pl L (va_up f r (.inl (k 0, 24, .inl (if b9 = true then fa_fill (koF (fa_fill (fun j => rowAt g1 (j : Int)) g 24)) (fa_fill (fun j => rowAt g1 (j : Int)) g 24) 24 else fa_fill (kiF (fa_fill (fun j => rowAt g1 (j : Int)) g 24)) (fa_fill (fun j => rowAt g1 (j : Int)) g 24) 24))))) (pB D (va_pl L f) s.heap.size) (va_A (va_pl L f) s.heap.size)) ([.ref h, .ref tx] : List Value).toArray s 0 0 (va_A (va_pl L f) s.heap.size) := ⟨_, rfl⟩
  rw [← hQ]
  refine lv_aload_n hx hb dX4_gather_0 rfl (lv_at hl 0 rfl) ?_
  refine pl_get (ci := 3) (v := .ref gs) (C := RX4) (T := TX4) (N := 6) hx hb hts hi_X4 hown hK hP hh hfh rfl 2 (by decide) hw_0 (u_same hw_1) rfl dX4_gather_1 ?_
  refine lv_aload_n hx hb dX4_gather_4 rfl (lv_at hl 0 rfl) ?_
  refine pl_get (ci := 3) (v := .ref o1) (C := RX4) (T := TX4) (N := 6) hx hb hts hi_X4 hown hK hP hh hfh rfl 4 (by decide) hw_2 (fun _ h9 => h9) rfl dX4_gather_5 ?_
  refine pl_getE (v := .ref gs1) hx hb hts hi_X1 hi_X2 hi_X3 hi_X4 hi_X5 hi_X7 hown hK hP ho1 hx1 2 (by decide) hw_3 rfl dX4_gather_8 ?_
  refine pc_callv (va_runV (As := [.ref gs1]) (rest := []) ⟨hx, hb, hml, hown, hts⟩ (kX6_takeOver l D k L f gs r g hgs hfgs hr hfr gs1 r1 g1 hgs1 hfgs1 hr1 hfr1 hrr1 n0 _) (cwV 1 hts gX4_gather_X6_takeOver rfl rfl rfl (by decide +kernel) ⟨Nat.le_of_ble_eq_true rfl, Nat.le_of_ble_eq_true rfl⟩) (pc_preV hC hP (Nat.le_trans hn9 hS.1) hD hAn (pl_recv hK hP hgs hfgs (ci := 5) (q := (RX6, TX6, 1)) rfl)) rfl rfl hl.1 rfl (lv_room (Nat.le_of_ble_eq_true rfl)) dX4_gather_11 ⟨Nat.zero_le _, Nat.zero_le _⟩) hD hS hA (fun ur1 H locs hr1 hP hD hS hzr1 => ?_)
  subst hr1
  have hP : va_P D vwCl (va_pl L (va_up f r (.inl (k 0, 24, .inl (fa_fill (fun j => rowAt g1 (j : Int)) g 24))))) H := hP
  have hD : va_D A (va_pl L (va_up f r (.inl (k 0, 24, .inl (fa_fill (fun j => rowAt g1 (j : Int)) g 24))))) := hD
  refine lv_aload_n hx hb dX4_gather_14 rfl (lv_at hl 0 rfl) ?_
  refine pl_get (ci := 3) (v := .int (bI (b9))) (C := RX4) (T := TX4) (N := 6) hx hb hts hi_X4 hown hK hP hh ((va_up_ne _ _ (ne_k hfh hfr (by simp))).trans hfh) rfl 5 (by decide) hw_4 (fun _ h9 => h9) rfl dX4_gather_15 ?_
  refine zr_ifb_eq (tgt := 31) hx hb dX4_gather_18 (by decide) (fun c2 => ?_) (fun c2 => ?_)
  · refine lv_aload_n hx hb dX4_gather_31 rfl (lv_at hl 0 rfl) ?_
    refine pl_get (ci := 3) (v := .ref gs) (C := RX4) (T := TX4) (N := 6) hx hb hts hi_X4 hown hK hP hh ((va_up_ne _ _ (ne_k hfh hfr (by simp))).trans hfh) rfl 2 (by decide) hw_0 (u_same hw_1) rfl dX4_gather_32 ?_
    refine pc_callv (va_runV (As := []) (rest := []) ⟨hx, hb, hml, hown, hts⟩ (kX6_keepInner l D k L (va_up f r (.inl (k 0, 24, .inl (fa_fill (fun j => rowAt g1 (j : Int)) g 24)))) gs r ((fa_fill (fun j => rowAt g1 (j : Int)) g 24)) hgs ((va_up_ne _ _ (ne_k hfgs hfr (by simp))).trans hfgs) hr (va_up_self _ _ _)  n0 _) (cwV 0 hts gX4_gather_X6_keepInner rfl rfl rfl (by decide +kernel) ⟨Nat.le_of_ble_eq_true rfl, Nat.le_of_ble_eq_true rfl⟩) (pc_preV hC hP (Nat.le_trans hn9 hS.1) hD hAn (pl_recv hK hP hgs ((va_up_ne _ _ (ne_k hfgs hfr (by simp))).trans hfgs) (ci := 5) (q := (RX6, TX6, 1)) rfl)) rfl rfl hl.1 rfl (lv_room (Nat.le_of_ble_eq_true rfl)) dX4_gather_35 ⟨Nat.zero_le _, Nat.zero_le _⟩) hD hS hA (fun ur3 H locs hr3 hP hD hS hzr3 => ?_)
    subst hr3
    rw [bx_uu] at hP hD
    have hP : va_P D vwCl (va_pl L (va_up f r (.inl (k 0, 24, .inl (fa_fill (kiF ((fa_fill (fun j => rowAt g1 (j : Int)) g 24))) ((fa_fill (fun j => rowAt g1 (j : Int)) g 24)) 24))))) H := hP
    have hD : va_D A (va_pl L (va_up f r (.inl (k 0, 24, .inl (fa_fill (kiF ((fa_fill (fun j => rowAt g1 (j : Int)) g 24))) ((fa_fill (fun j => rowAt g1 (j : Int)) g 24)) 24))))) := hD
    rw [hQ]
    exact pc_vret hx hb hrt hP (by rw [← hAd]; exact hD) (by rw [← hAd]; exact hS) (by show _ = _; first | rw [if_pos (by assumption)] | rw [if_neg (by simp [*])]) dX4_gather_38 hlocks
  · refine lv_aload_n hx hb dX4_gather_21 rfl (lv_at hl 0 rfl) ?_
    refine pl_get (ci := 3) (v := .ref gs) (C := RX4) (T := TX4) (N := 6) hx hb hts hi_X4 hown hK hP hh ((va_up_ne _ _ (ne_k hfh hfr (by simp))).trans hfh) rfl 2 (by decide) hw_0 (u_same hw_1) rfl dX4_gather_22 ?_
    refine pc_callv (va_runV (As := []) (rest := []) ⟨hx, hb, hml, hown, hts⟩ (kX6_keepOuter l D k L (va_up f r (.inl (k 0, 24, .inl (fa_fill (fun j => rowAt g1 (j : Int)) g 24)))) gs r ((fa_fill (fun j => rowAt g1 (j : Int)) g 24)) hgs ((va_up_ne _ _ (ne_k hfgs hfr (by simp))).trans hfgs) hr (va_up_self _ _ _)  n0 _) (cwV 0 hts gX4_gather_X6_keepOuter rfl rfl rfl (by decide +kernel) ⟨Nat.le_of_ble_eq_true rfl, Nat.le_of_ble_eq_true rfl⟩) (pc_preV hC hP (Nat.le_trans hn9 hS.1) hD hAn (pl_recv hK hP hgs ((va_up_ne _ _ (ne_k hfgs hfr (by simp))).trans hfgs) (ci := 5) (q := (RX6, TX6, 1)) rfl)) rfl rfl hl.1 rfl (lv_room (Nat.le_of_ble_eq_true rfl)) dX4_gather_25 ⟨Nat.zero_le _, Nat.zero_le _⟩) hD hS hA (fun ur4 H locs hr4 hP hD hS hzr4 => ?_)
    subst hr4
    rw [bx_uu] at hP hD
    have hP : va_P D vwCl (va_pl L (va_up f r (.inl (k 0, 24, .inl (fa_fill (koF ((fa_fill (fun j => rowAt g1 (j : Int)) g 24))) ((fa_fill (fun j => rowAt g1 (j : Int)) g 24)) 24))))) H := hP
    have hD : va_D A (va_pl L (va_up f r (.inl (k 0, 24, .inl (fa_fill (koF ((fa_fill (fun j => rowAt g1 (j : Int)) g 24))) ((fa_fill (fun j => rowAt g1 (j : Int)) g 24)) 24))))) := hD
    refine lv_goto (tgt := 38) hx hb dX4_gather_28 (by decide) ?_
    rw [hQ]
    exact pc_vret hx hb hrt hP (by rw [← hAd]; exact hD) (by rw [← hAd]; exact hS) (by show _ = _; first | rw [if_pos (by assumption)] | rw [if_neg (by simp [*])]) dX4_gather_38 hlocks

set_option maxHeartbeats 4000000 in
set_option maxRecDepth 100000 in
theorem kX7_gather (l : Launch) (D : va_G) (k : Nat → ClassId) (L : List Nat) (f : Nat → va_E) (h : Nat) (d : Int) (nd : Int32) (as js : Nat) (o1 : Nat) (d1 : Int) (n1 : Int32) (gs1 as1 : Nat) (hd1 : -100 ≤ d1 ∧ d1 ≤ 100) (ho1 : o1 ∈ L) (hx1 : exAt f o1 (zI d1) n1 gs1 as1) (o2 : Nat) (d2 : Int) (n2 : Int32) (gs2 as2 : Nat) (hd2 : -100 ≤ d2 ∧ d2 ≤ 100) (ho2 : o2 ∈ L) (hx2 : exAt f o2 (zI d2) n2 gs2 as2) (gs r : Nat) (g : Nat → Int32) (hgs : gs ∈ L) (hfgs : f gs = .inr (5, [.ref r])) (hr : r ∈ L) (hfr : f r = .inl (k 0, 24, .inl g)) (r1 : Nat) (g1 : Nat → Int32) (hgs1 : gs1 ∈ L) (hfgs1 : f gs1 = .inr (5, [.ref r1])) (hr1 : r1 ∈ L) (hfr1 : f r1 = .inl (k 0, 24, .inl g1)) (hrr1 : r1 ≠ r) (r2 : Nat) (g2 : Nat → Int32) (hgs2 : gs2 ∈ L) (hfgs2 : f gs2 = .inr (5, [.ref r2])) (hr2 : r2 ∈ L) (hfr2 : f r2 = .inl (k 0, 24, .inl g2)) (hrr2 : r2 ≠ r) (hh : h ∈ L) (hfh : f h = .inr (6, [.int (zI d), .int nd, .ref gs, .ref as, .ref o1, .ref o2, .ref js])) (tx : Nat) (n0 sz : Nat) : Met l yX7_gather wsX7_gather ({ frames := 3, cells := 0, slots := 0, locals := 67 } : Room) (va_Pc [.ref h, .ref tx] (pPre D (tyL k) n0 (va_pl L f) sz)) (va_Qv (fun u => u = va_pl L (va_up f r (.inl (k 0, 24, .inl (fa_fill (kiF (fa_fill (jnF g1 g2 24) g 24)) (fa_fill (jnF g1 g2 24) g 24) 24))))) (pB D (va_pl L f) sz) (va_A (va_pl L f) sz)) 0 0 (va_A (va_pl L f) sz) := by
  refine Met.ofW (cc := cX7_gather) (maxL := 2) (ret := none) (by decide) rfl ?_
  intro p e s m args below meth c s₁ B hml hv
  obtain ⟨rfl, hsz, hn9, hP, hC, hD0⟩ := hv
  have hK := hC.1
  have hNW := hC.2.1
  have hx := B.exec
  have hb := B.bytes
  have hrt := B.returns
  have hts := atoms_spec (ws := wsX7_gather) B.pre
  have hown : s.vm.findClass RX7 = some m.cls := findClass_of_methodNamed B.named
  have hlocks := B.notSynchronized
  subst hsz
  obtain ⟨A, hAd⟩ : ∃ A, A = va_A (va_pl L f) s.heap.size := ⟨_, rfl⟩
  have hD := hD0.self (sz := s.heap.size)
  rw [← hAd] at hD
  have hA : ∀ q : Nat, s.heap.size ≤ q → A q := fun q h => by rw [hAd]; exact Or.inr h
  have hAn : ∀ q : Nat, A q → n0 ≤ q := fun q h => by
    rw [hAd] at h
    rcases h with ⟨k9, e9, hk9⟩ | h
    · exact hD0.2 k9 _ hk9
    · exact Nat.le_trans hn9 h
  have hS : va_S A s.heap s.heap [] := va_S.rf
  have hi_X7 : ∀ w ∈ u_ws RX7 TX7 7, w ∈ wsX7_gather := by decide +kernel
  have hi_X1 : ∀ w ∈ u_ws RX1 TX1 5, w ∈ wsX7_gather := by decide +kernel
  have hi_X2 : ∀ w ∈ u_ws RX2 TX2 5, w ∈ wsX7_gather := by decide +kernel
  have hi_X3 : ∀ w ∈ u_ws RX3 TX3 7, w ∈ wsX7_gather := by decide +kernel
  have hi_X4 : ∀ w ∈ u_ws RX4 TX4 6, w ∈ wsX7_gather := by decide +kernel
  have hi_X5 : ∀ w ∈ u_ws RX5 TX5 7, w ∈ wsX7_gather := by decide +kernel
  have hw_0 := hts (.fieldLink RX7 35 "Regionry$SpanExpression" "gathered" "LRegionry$RegionSet;") (by decide +kernel)
  have hw_1 := hts (.sameField "Regionry$SpanExpression" "Regionry$Expression" "gathered" "LRegionry$RegionSet;") (by decide +kernel)
  have hw_2 := hts (.fieldLink RX7 28 "Regionry$SpanExpression" "one" "LRegionry$Expression;") (by decide +kernel)
  have hw_3 := hts (.fieldLink RX7 38 "Regionry$Expression" "gathered" "LRegionry$RegionSet;") (by decide +kernel)
  have hw_4 := hts (.fieldLink RX7 32 "Regionry$SpanExpression" "other" "LRegionry$Expression;") (by decide +kernel)
  have hl := lv_entry ([.ref h, .ref tx]) (n := 2) (Nat.le_of_ble_eq_true rfl)
  rw [lg_entry_eq]
  generalize (lg_sl ([.ref h, .ref tx]) ++ List.replicate (2 - (lg_sl ([.ref h, .ref tx])).length) Slot.unset).toArray = ls at hl ⊢
  have hl : lv_has ls 2 [(0, .ref h), (1, .ref tx)] := hl
  obtain ⟨Q, hQ⟩ : ∃ Q, Q = MQ below (va_Qv (fun u => u = va_pl L (va_up f r (.inl (k 0, 24, .inl (fa_fill (kiF (fa_fill (jnF g1 g2 24) g 24)) (fa_fill (jnF g1 g2 24) g 24) 24))))) (pB D (va_pl L f) s.heap.size) (va_A (va_pl L f) s.heap.size)) ([.ref h, .ref tx] : List Value).toArray s 0 0 (va_A (va_pl L f) s.heap.size) := ⟨_, rfl⟩
  rw [← hQ]
  refine lv_aload_n hx hb dX7_gather_0 rfl (lv_at hl 0 rfl) ?_
  refine pl_get (ci := 6) (v := .ref gs) (C := RX7) (T := TX7) (N := 7) hx hb hts hi_X7 hown hK hP hh hfh rfl 2 (by decide) hw_0 (u_same hw_1) rfl dX7_gather_1 ?_
  refine lv_aload_n hx hb dX7_gather_4 rfl (lv_at hl 0 rfl) ?_
  refine pl_get (ci := 6) (v := .ref o1) (C := RX7) (T := TX7) (N := 7) hx hb hts hi_X7 hown hK hP hh hfh rfl 4 (by decide) hw_2 (fun _ h9 => h9) rfl dX7_gather_5 ?_
  refine pl_getE (v := .ref gs1) hx hb hts hi_X1 hi_X2 hi_X3 hi_X4 hi_X5 hi_X7 hown hK hP ho1 hx1 2 (by decide) hw_3 rfl dX7_gather_8 ?_
  refine lv_aload_n hx hb dX7_gather_11 rfl (lv_at hl 0 rfl) ?_
  refine pl_get (ci := 6) (v := .ref o2) (C := RX7) (T := TX7) (N := 7) hx hb hts hi_X7 hown hK hP hh hfh rfl 5 (by decide) hw_4 (fun _ h9 => h9) rfl dX7_gather_12 ?_
  refine pl_getE (v := .ref gs2) hx hb hts hi_X1 hi_X2 hi_X3 hi_X4 hi_X5 hi_X7 hown hK hP ho2 hx2 2 (by decide) hw_3 rfl dX7_gather_15 ?_
  refine zr_bipush hx hb dX7_gather_18 (by decide) ?_
  refine pc_callv (va_runV (As := [.ref gs1, .ref gs2, .int (zI (24))]) (rest := []) ⟨hx, hb, hml, hown, hts⟩ (kX6_join l D k L f gs r g hgs hfgs hr hfr gs1 r1 g1 hgs1 hfgs1 hr1 hfr1 hrr1 gs2 r2 g2 hgs2 hfgs2 hr2 hfr2 hrr2 (24) (by omega) n0 _) (cwV 3 hts gX7_gather_X6_join rfl rfl rfl (by decide +kernel) ⟨Nat.le_of_ble_eq_true rfl, Nat.le_of_ble_eq_true rfl⟩) (pc_preV hC hP (Nat.le_trans hn9 hS.1) hD hAn (pl_recv hK hP hgs hfgs (ci := 5) (q := (RX6, TX6, 1)) rfl)) rfl rfl hl.1 rfl (lv_room (Nat.le_of_ble_eq_true rfl)) dX7_gather_20 ⟨Nat.zero_le _, Nat.zero_le _⟩) hD hS hA (fun ur1 H locs hr1 hP hD hS hzr1 => ?_)
  subst hr1
  have hP : va_P D vwCl (va_pl L (va_up f r (.inl (k 0, 24, .inl (fa_fill (jnF g1 g2 24) g 24))))) H := hP
  have hD : va_D A (va_pl L (va_up f r (.inl (k 0, 24, .inl (fa_fill (jnF g1 g2 24) g 24))))) := hD
  refine lv_aload_n hx hb dX7_gather_23 rfl (lv_at hl 0 rfl) ?_
  refine pl_get (ci := 6) (v := .ref gs) (C := RX7) (T := TX7) (N := 7) hx hb hts hi_X7 hown hK hP hh ((va_up_ne _ _ (ne_k hfh hfr (by simp))).trans hfh) rfl 2 (by decide) hw_0 (u_same hw_1) rfl dX7_gather_24 ?_
  refine pc_callv (va_runV (As := []) (rest := []) ⟨hx, hb, hml, hown, hts⟩ (kX6_keepInner l D k L (va_up f r (.inl (k 0, 24, .inl (fa_fill (jnF g1 g2 24) g 24)))) gs r ((fa_fill (jnF g1 g2 24) g 24)) hgs ((va_up_ne _ _ (ne_k hfgs hfr (by simp))).trans hfgs) hr (va_up_self _ _ _)  n0 _) (cwV 0 hts gX7_gather_X6_keepInner rfl rfl rfl (by decide +kernel) ⟨Nat.le_of_ble_eq_true rfl, Nat.le_of_ble_eq_true rfl⟩) (pc_preV hC hP (Nat.le_trans hn9 hS.1) hD hAn (pl_recv hK hP hgs ((va_up_ne _ _ (ne_k hfgs hfr (by simp))).trans hfgs) (ci := 5) (q := (RX6, TX6, 1)) rfl)) rfl rfl hl.1 rfl (lv_room (Nat.le_of_ble_eq_true rfl)) dX7_gather_27 ⟨Nat.zero_le _, Nat.zero_le _⟩) hD hS hA (fun ur2 H locs hr2 hP hD hS hzr2 => ?_)
  subst hr2
  rw [bx_uu] at hP hD
  have hP : va_P D vwCl (va_pl L (va_up f r (.inl (k 0, 24, .inl (fa_fill (kiF ((fa_fill (jnF g1 g2 24) g 24))) ((fa_fill (jnF g1 g2 24) g 24)) 24))))) H := hP
  have hD : va_D A (va_pl L (va_up f r (.inl (k 0, 24, .inl (fa_fill (kiF ((fa_fill (jnF g1 g2 24) g 24))) ((fa_fill (jnF g1 g2 24) g 24)) 24))))) := hD
  rw [hQ]
  exact pc_vret hx hb hrt hP (by rw [← hAd]; exact hD) (by rw [← hAd]; exact hS) (rfl) dX7_gather_30 hlocks
