set_option maxHeartbeats 4000000 in
set_option maxRecDepth 100000 in
theorem kX1_isOne (l : Launch) (D : va_G) (k : Nat → ClassId) (L : List Nat) (f : Nat → va_E) (h : Nat) (d : Int) (nd : Int32) (gs as : Nat) (ms r1 : Nat) (g1 : Nat → Int32) (hms : ms ∈ L) (hfms : f ms = .inr (5, [.ref r1])) (hr1 : r1 ∈ L) (hfr1 : f r1 = .inl (k 0, 24, .inl g1)) (hh : h ∈ L) (hfh : f h = .inr (0, [.int (zI (d)), .int (nd), .ref gs, .ref as, .ref ms]))  (tx9 : Nat) (z w : Int) (hz : 0 ≤ z ∧ z < w) (hw : w ≤ 24) : Met l yX1_isOne wsX1_isOne ({ frames := 1, cells := 0, slots := 0, locals := 22 } : Room) (va_Pc [.ref h, .ref tx9, .int (zI (z)), .int (zI (w))] (rPre D (tyL k) (va_pl L f))) (vp_Si (fun r9 => r9 = bI (hasB g1 z w))) 0 0 (fun _ => False) := by
  refine Met.ofW (cc := cX1_isOne) (maxL := 4) (ret := (some .boolean)) (by decide) rfl ?_
  intro p e s m args below meth c s₁ B hml hv
  obtain ⟨rfl, hP, hC⟩ := hv
  have hK := hC.1
  have hNW := hC.2.1
  have hx := B.exec
  have hb := B.bytes
  have hrt := B.returns
  have hts := atoms_spec (ws := wsX1_isOne) B.pre
  have hown : s.vm.findClass RX1 = some m.cls := findClass_of_methodNamed B.named
  have hlocks := B.notSynchronized
  have hi_X1 : ∀ w ∈ u_ws RX1 TX1 5, w ∈ wsX1_isOne := by decide +kernel
  have hw_0 := hts (.fieldLink RX1 7 "Regionry$KindExpression" "marks" "LRegionry$RegionSet;") (by decide +kernel)
  have hl := lv_entry ([.ref h, .ref tx9, .int (zI (z)), .int (zI (w))]) (n := 4) (Nat.le_of_ble_eq_true rfl)
  rw [lg_entry_eq]
  generalize (lg_sl ([.ref h, .ref tx9, .int (zI (z)), .int (zI (w))]) ++ List.replicate (4 - (lg_sl ([.ref h, .ref tx9, .int (zI (z)), .int (zI (w))])).length) Slot.unset).toArray = ls at hl ⊢
  have hl : lv_has ls 4 [(0, .ref h), (1, .ref tx9), (2, .int (zI (z))), (3, .int (zI (w)))] := hl
  obtain ⟨Q, hQ⟩ : ∃ Q, Q = MQ below (vp_Si (fun r9 => r9 = bI (hasB g1 z w))) ([.ref h, .ref tx9, .int (zI (z)), .int (zI (w))] : List Value).toArray s 0 0 (fun _ => False) := ⟨_, rfl⟩
  rw [← hQ]
  refine lv_aload_n hx hb dX1_isOne_0 rfl (lv_at hl 0 rfl) ?_
  refine pl_get (ci := 0) (v := .ref ms) (C := RX1) (T := TX1) (N := 5) hx hb hts hi_X1 hown hK hP hh hfh rfl 4 (by decide) hw_0 (fun _ h9 => h9) rfl dX1_isOne_1 ?_
  refine lv_iload_n hx hb dX1_isOne_4 rfl (lv_at hl 2 rfl) ?_
  refine lv_iload_n hx hb dX1_isOne_5 rfl (lv_at hl 3 rfl) ?_
  refine vp_callSi (va_Run.run (va_runV (As := [.int (zI (z)), .int (zI (w))]) (rest := []) ⟨hx, hb, hml, hown, hts⟩ (kX6_contains l D k L f ms r1 g1 hms hfms hr1 hfr1 (z) (by omega) (w) (by omega)) (cwV 2 hts gX1_isOne_X6_contains rfl rfl rfl (by decide +kernel) ⟨Nat.le_of_ble_eq_true rfl, Nat.le_of_ble_eq_true rfl⟩) (rc_preV hC hP (pl_recv hK hP hms hfms (ci := 5) (q := (RX6, TX6, 1)) rfl)) rfl rfl hl.1 rfl (lv_room (Nat.le_of_ble_eq_true rfl)) dX1_isOne_6 ⟨Nat.zero_le _, Nat.zero_le _⟩)) (fun r1 hr1 => ?_)
  subst hr1
  rw [hQ]
  exact rc_zret hx hb hrt (rfl) dX1_isOne_9 hlocks

set_option maxHeartbeats 4000000 in
set_option maxRecDepth 100000 in
theorem kX2_isOne (l : Launch) (D : va_G) (k : Nat → ClassId) (L : List Nat) (f : Nat → va_E) (h : Nat) (d : Int) (nd : Int32) (gs as : Nat) (x : Int32) (tx la ma : Nat) (n : Int) (T : Nat → Int32) (htx : tx ∈ L) (hftx : f tx = .inr (7, [.ref la, .ref ma, .int (zI n)])) (hla : la ∈ L) (hfla : f la = .inl (k 0, 24, .inl T)) (hn : 0 ≤ n ∧ n ≤ 24) (hh : h ∈ L) (hfh : f h = .inr (1, [.int (zI (d)), .int (nd), .ref gs, .ref as, .int (x)]))  (z w : Int) (hz : 0 ≤ z ∧ z < w) (hw : w ≤ 24) : Met l yX2_isOne wsX2_isOne ({ frames := 2, cells := 0, slots := 0, locals := 43 } : Room) (va_Pc [.ref h, .ref tx, .int (zI (z)), .int (zI (w))] (rPre D (tyL k) (va_pl L f))) (vp_Si (fun r9 => r9 = bI (ltB T n x z w))) 0 0 (fun _ => False) := by
  refine Met.ofW (cc := cX2_isOne) (maxL := 4) (ret := (some .boolean)) (by decide) rfl ?_
  intro p e s m args below meth c s₁ B hml hv
  obtain ⟨rfl, hP, hC⟩ := hv
  have hK := hC.1
  have hNW := hC.2.1
  have hx := B.exec
  have hb := B.bytes
  have hrt := B.returns
  have hts := atoms_spec (ws := wsX2_isOne) B.pre
  have hown : s.vm.findClass RX2 = some m.cls := findClass_of_methodNamed B.named
  have hlocks := B.notSynchronized
  have hi_X2 : ∀ w ∈ u_ws RX2 TX2 5, w ∈ wsX2_isOne := by decide +kernel
  have hw_0 := hts (.fieldLink RX2 7 "Regionry$LetterExpression" "sought" "I") (by decide +kernel)
  have hl := lv_entry ([.ref h, .ref tx, .int (zI (z)), .int (zI (w))]) (n := 4) (Nat.le_of_ble_eq_true rfl)
  rw [lg_entry_eq]
  generalize (lg_sl ([.ref h, .ref tx, .int (zI (z)), .int (zI (w))]) ++ List.replicate (4 - (lg_sl ([.ref h, .ref tx, .int (zI (z)), .int (zI (w))])).length) Slot.unset).toArray = ls at hl ⊢
  have hl : lv_has ls 4 [(0, .ref h), (1, .ref tx), (2, .int (zI (z))), (3, .int (zI (w)))] := hl
  obtain ⟨Q, hQ⟩ : ∃ Q, Q = MQ below (vp_Si (fun r9 => r9 = bI (ltB T n x z w))) ([.ref h, .ref tx, .int (zI (z)), .int (zI (w))] : List Value).toArray s 0 0 (fun _ => False) := ⟨_, rfl⟩
  rw [← hQ]
  refine lv_iload_n hx hb dX2_isOne_0 rfl (lv_at hl 3 rfl) ?_
  refine lv_iload_n hx hb dX2_isOne_1 rfl (lv_at hl 2 rfl) ?_
  refine zr_const hx hb dX2_isOne_2 ?_
  refine zr_add hx hb dX2_isOne_3 ?_
  refine zr_icmp_ne (tgt := 23) hx hb dX2_isOne_4 (by decide) (by omega) (by omega) (fun c1 => ?_) (fun c1 => ?_)
  · refine zr_const hx hb dX2_isOne_23 ?_
    rw [hQ]
    refine zr_top (y := bI (ltB T n x z w)) (by first | exact bI_t (lt_1 (by assumption) (by assumption)) | exact bI_f (lt_2 (by assumption)) | exact bI_f (lt_3 (by assumption))) ?_
    exact rc_zret hx hb hrt (rfl) dX2_isOne_24 hlocks
  · refine lv_aload_n hx hb dX2_isOne_7 rfl (lv_at hl 1 rfl) ?_
    refine lv_aload_n hx hb dX2_isOne_8 rfl (lv_at hl 0 rfl) ?_
    refine pl_get (ci := 1) (v := .int (x)) (C := RX2) (T := TX2) (N := 5) hx hb hts hi_X2 hown hK hP hh hfh rfl 4 (by decide) hw_0 (fun _ h9 => h9) rfl dX2_isOne_9 ?_
    refine lv_iload_n hx hb dX2_isOne_12 rfl (lv_at hl 2 rfl) ?_
    refine vp_callSi (va_Run.run (va_runV (As := [.int (x), .int (zI (z))]) (rest := []) ⟨hx, hb, hml, hown, hts⟩ (kX8_isAt l D k L f tx la ma n T htx hftx hla hfla (by omega) x (z) (by omega)) (cwV 2 hts gX2_isOne_X8_isAt rfl rfl rfl (by decide +kernel) ⟨Nat.le_of_ble_eq_true rfl, Nat.le_of_ble_eq_true rfl⟩) (rc_preV hC hP (pl_recv hK hP htx hftx (ci := 7) (q := (RX8, TX8, 3)) rfl)) rfl rfl hl.1 rfl (lv_room (Nat.le_of_ble_eq_true rfl)) dX2_isOne_13 ⟨Nat.zero_le _, Nat.zero_le _⟩)) (fun r2 hr2 => ?_)
    subst hr2
    refine zr_ifb_eq (tgt := 23) hx hb dX2_isOne_16 (by decide) (fun c3 => ?_) (fun c3 => ?_)
    · refine zr_const hx hb dX2_isOne_23 ?_
      rw [hQ]
      refine zr_top (y := bI (ltB T n x z w)) (by first | exact bI_t (lt_1 (by assumption) (by assumption)) | exact bI_f (lt_2 (by assumption)) | exact bI_f (lt_3 (by assumption))) ?_
      exact rc_zret hx hb hrt (rfl) dX2_isOne_24 hlocks
    · refine zr_const hx hb dX2_isOne_19 ?_
      refine lv_goto (tgt := 24) hx hb dX2_isOne_20 (by decide) ?_
      rw [hQ]
      refine zr_top (y := bI (ltB T n x z w)) (by first | exact bI_t (lt_1 (by assumption) (by assumption)) | exact bI_f (lt_2 (by assumption)) | exact bI_f (lt_3 (by assumption))) ?_
      exact rc_zret hx hb hrt (rfl) dX2_isOne_24 hlocks

set_option maxHeartbeats 4000000 in
set_option maxRecDepth 100000 in
theorem kX3_isOne (l : Launch) (D : va_G) (k : Nat → ClassId) (L : List Nat) (f : Nat → va_E) (h : Nat) (d : Int) (nd : Int32) (gs as : Nat) (v : Int) (hv9 : 0 ≤ v ∧ v ≤ 24) (o1 : Nat) (d1 : Int) (n1 : Int32) (gs1 as1 : Nat) (hd1 : -100 ≤ d1 ∧ d1 ≤ 100) (ho1 : o1 ∈ L) (hx1 : exAt f o1 (zI d1) n1 gs1 as1) (o2 : Nat) (d2 : Int) (n2 : Int32) (gs2 as2 : Nat) (hd2 : -100 ≤ d2 ∧ d2 ≤ 100) (ho2 : o2 ∈ L) (hx2 : exAt f o2 (zI d2) n2 gs2 as2) (r1 : Nat) (g1 : Nat → Int32) (has1 : as1 ∈ L) (hfas1 : f as1 = .inr (5, [.ref r1])) (hr1 : r1 ∈ L) (hfr1 : f r1 = .inl (k 0, 24, .inl g1)) (r2 : Nat) (g2 : Nat → Int32) (has2 : as2 ∈ L) (hfas2 : f as2 = .inr (5, [.ref r2])) (hr2 : r2 ∈ L) (hfr2 : f r2 = .inl (k 0, 24, .inl g2)) (hh : h ∈ L) (hfh : f h = .inr (2, [.int (zI (d)), .int (nd), .ref gs, .ref as, .ref o1, .ref o2, .int (zI (v))]))  (tx9 : Nat) (z w : Int) (hz : 0 ≤ z ∧ z < w) (hw : w ≤ 24) : Met l yX3_isOne wsX3_isOne ({ frames := 3, cells := 0, slots := 0, locals := 75 } : Room) (va_Pc [.ref h, .ref tx9, .int (zI (z)), .int (zI (w))] (rPre D (tyL k) (va_pl L f))) (vp_Si (fun r9 => r9 = bI (ijB g1 g2 v z w))) 0 0 (fun _ => False) := by
  refine Met.ofW (cc := cX3_isOne) (maxL := 4) (ret := (some .boolean)) (by decide) rfl ?_
  intro p e s m args below meth c s₁ B hml hv
  obtain ⟨rfl, hP, hC⟩ := hv
  have hK := hC.1
  have hNW := hC.2.1
  have hx := B.exec
  have hb := B.bytes
  have hrt := B.returns
  have hts := atoms_spec (ws := wsX3_isOne) B.pre
  have hown : s.vm.findClass RX3 = some m.cls := findClass_of_methodNamed B.named
  have hlocks := B.notSynchronized
  have hi_X3 : ∀ w ∈ u_ws RX3 TX3 7, w ∈ wsX3_isOne := by decide +kernel
  have hi_X1 : ∀ w ∈ u_ws RX1 TX1 5, w ∈ wsX3_isOne := by decide +kernel
  have hi_X2 : ∀ w ∈ u_ws RX2 TX2 5, w ∈ wsX3_isOne := by decide +kernel
  have hi_X4 : ∀ w ∈ u_ws RX4 TX4 6, w ∈ wsX3_isOne := by decide +kernel
  have hi_X5 : ∀ w ∈ u_ws RX5 TX5 7, w ∈ wsX3_isOne := by decide +kernel
  have hi_X7 : ∀ w ∈ u_ws RX7 TX7 7, w ∈ wsX3_isOne := by decide +kernel
  have hw_0 := hts (.fieldLink RX3 17 "Regionry$NearExpression" "one" "LRegionry$Expression;") (by decide +kernel)
  have hw_1 := hts (.fieldLink RX3 40 "Regionry$Expression" "asked" "LRegionry$RegionSet;") (by decide +kernel)
  have hw_2 := hts (.fieldLink RX3 23 "Regionry$NearExpression" "other" "LRegionry$Expression;") (by decide +kernel)
  have hw_3 := hts (.fieldLink RX3 26 "Regionry$NearExpression" "gap" "I") (by decide +kernel)
  have hl := lv_entry ([.ref h, .ref tx9, .int (zI (z)), .int (zI (w))]) (n := 4) (Nat.le_of_ble_eq_true rfl)
  rw [lg_entry_eq]
  generalize (lg_sl ([.ref h, .ref tx9, .int (zI (z)), .int (zI (w))]) ++ List.replicate (4 - (lg_sl ([.ref h, .ref tx9, .int (zI (z)), .int (zI (w))])).length) Slot.unset).toArray = ls at hl ⊢
  have hl : lv_has ls 4 [(0, .ref h), (1, .ref tx9), (2, .int (zI (z))), (3, .int (zI (w)))] := hl
  obtain ⟨Q, hQ⟩ : ∃ Q, Q = MQ below (vp_Si (fun r9 => r9 = bI (ijB g1 g2 v z w))) ([.ref h, .ref tx9, .int (zI (z)), .int (zI (w))] : List Value).toArray s 0 0 (fun _ => False) := ⟨_, rfl⟩
  rw [← hQ]
  refine lv_aload_n hx hb dX3_isOne_0 rfl (lv_at hl 0 rfl) ?_
  refine pl_get (ci := 2) (v := .ref o1) (C := RX3) (T := TX3) (N := 7) hx hb hts hi_X3 hown hK hP hh hfh rfl 4 (by decide) hw_0 (fun _ h9 => h9) rfl dX3_isOne_1 ?_
  refine pl_getE (v := .ref as1) hx hb hts hi_X1 hi_X2 hi_X3 hi_X4 hi_X5 hi_X7 hown hK hP ho1 hx1 3 (by decide) hw_1 rfl dX3_isOne_4 ?_
  refine lv_aload_n hx hb dX3_isOne_7 rfl (lv_at hl 0 rfl) ?_
  refine pl_get (ci := 2) (v := .ref o2) (C := RX3) (T := TX3) (N := 7) hx hb hts hi_X3 hown hK hP hh hfh rfl 5 (by decide) hw_2 (fun _ h9 => h9) rfl dX3_isOne_8 ?_
  refine pl_getE (v := .ref as2) hx hb hts hi_X1 hi_X2 hi_X3 hi_X4 hi_X5 hi_X7 hown hK hP ho2 hx2 3 (by decide) hw_1 rfl dX3_isOne_11 ?_
  refine lv_aload_n hx hb dX3_isOne_14 rfl (lv_at hl 0 rfl) ?_
  refine pl_get (ci := 2) (v := .int (zI (v))) (C := RX3) (T := TX3) (N := 7) hx hb hts hi_X3 hown hK hP hh hfh rfl 6 (by decide) hw_3 (fun _ h9 => h9) rfl dX3_isOne_15 ?_
  refine lv_iload_n hx hb dX3_isOne_18 rfl (lv_at hl 2 rfl) ?_
  refine lv_iload_n hx hb dX3_isOne_19 rfl (lv_at hl 3 rfl) ?_
  refine vp_callSi (va_Run.run (va_runS (As := [.ref as1, .ref as2, .int (zI (v)), .int (zI (z)), .int (zI (w))]) (rest := []) ⟨hx, hb, hml, hown, hts⟩ (kX6_isJoined l D k L f as1 r1 g1 has1 hfas1 hr1 hfr1 as2 r2 g2 has2 hfas2 hr2 hfr2 v z w (by omega) (by omega) (by omega)) (va_cwS 5 hts gX3_isOne_X6_isJoined rfl rfl rfl (by decide +kernel) ⟨Nat.le_of_ble_eq_true rfl, Nat.le_of_ble_eq_true rfl⟩) (rc_preS hC hP) rfl rfl hl.1 rfl (lv_room (Nat.le_of_ble_eq_true rfl)) dX3_isOne_20 ⟨Nat.zero_le _, Nat.zero_le _⟩)) (fun r1 hr1 => ?_)
  subst hr1
  rw [hQ]
  exact rc_zret hx hb hrt (rfl) dX3_isOne_23 hlocks

set_option maxHeartbeats 4000000 in
set_option maxRecDepth 100000 in
theorem kX4_isOne (l : Launch) (D : va_G) (k : Nat → ClassId) (L : List Nat) (f : Nat → va_E) (h : Nat) (d : Int) (nd : Int32) (gs as : Nat) (b9 : Bool) (o1 : Nat) (d1 : Int) (n1 : Int32) (gs1 as1 : Nat) (hd1 : -100 ≤ d1 ∧ d1 ≤ 100) (ho1 : o1 ∈ L) (hx1 : exAt f o1 (zI d1) n1 gs1 as1) (r1 : Nat) (g1 : Nat → Int32) (has1 : as1 ∈ L) (hfas1 : f as1 = .inr (5, [.ref r1])) (hr1 : r1 ∈ L) (hfr1 : f r1 = .inl (k 0, 24, .inl g1)) (hh : h ∈ L) (hfh : f h = .inr (3, [.int (zI (d)), .int (nd), .ref gs, .ref as, .ref o1, .int (bI (b9))]))  (tx9 : Nat) (z w : Int) (hz : 0 ≤ z ∧ z < w) (hw : w ≤ 24) : Met l yX4_isOne wsX4_isOne ({ frames := 3, cells := 0, slots := 0, locals := 71 } : Room) (va_Pc [.ref h, .ref tx9, .int (zI (z)), .int (zI (w))] (rPre D (tyL k) (va_pl L f))) (vp_Si (fun r9 => r9 = bI (onB b9 g1 z w))) 0 0 (fun _ => False) := by
  refine Met.ofW (cc := cX4_isOne) (maxL := 4) (ret := (some .boolean)) (by decide) rfl ?_
  intro p e s m args below meth c s₁ B hml hv
  obtain ⟨rfl, hP, hC⟩ := hv
  have hK := hC.1
  have hNW := hC.2.1
  have hx := B.exec
  have hb := B.bytes
  have hrt := B.returns
  have hts := atoms_spec (ws := wsX4_isOne) B.pre
  have hown : s.vm.findClass RX4 = some m.cls := findClass_of_methodNamed B.named
  have hlocks := B.notSynchronized
  have hi_X4 : ∀ w ∈ u_ws RX4 TX4 6, w ∈ wsX4_isOne := by decide +kernel
  have hi_X1 : ∀ w ∈ u_ws RX1 TX1 5, w ∈ wsX4_isOne := by decide +kernel
  have hi_X2 : ∀ w ∈ u_ws RX2 TX2 5, w ∈ wsX4_isOne := by decide +kernel
  have hi_X3 : ∀ w ∈ u_ws RX3 TX3 7, w ∈ wsX4_isOne := by decide +kernel
  have hi_X5 : ∀ w ∈ u_ws RX5 TX5 7, w ∈ wsX4_isOne := by decide +kernel
  have hi_X7 : ∀ w ∈ u_ws RX7 TX7 7, w ∈ wsX4_isOne := by decide +kernel
  have hw_0 := hts (.fieldLink RX4 17 "Regionry$OnlyExpression" "part" "LRegionry$Expression;") (by decide +kernel)
  have hw_1 := hts (.fieldLink RX4 45 "Regionry$Expression" "asked" "LRegionry$RegionSet;") (by decide +kernel)
  have hw_2 := hts (.fieldLink RX4 23 "Regionry$OnlyExpression" "isOuter" "Z") (by decide +kernel)
  have hl := lv_entry ([.ref h, .ref tx9, .int (zI (z)), .int (zI (w))]) (n := 4) (Nat.le_of_ble_eq_true rfl)
  rw [lg_entry_eq]
  generalize (lg_sl ([.ref h, .ref tx9, .int (zI (z)), .int (zI (w))]) ++ List.replicate (4 - (lg_sl ([.ref h, .ref tx9, .int (zI (z)), .int (zI (w))])).length) Slot.unset).toArray = ls at hl ⊢
  have hl : lv_has ls 4 [(0, .ref h), (1, .ref tx9), (2, .int (zI (z))), (3, .int (zI (w)))] := hl
  obtain ⟨Q, hQ⟩ : ∃ Q, Q = MQ below (vp_Si (fun r9 => r9 = bI (onB b9 g1 z w))) ([.ref h, .ref tx9, .int (zI (z)), .int (zI (w))] : List Value).toArray s 0 0 (fun _ => False) := ⟨_, rfl⟩
  rw [← hQ]
  refine lv_aload_n hx hb dX4_isOne_0 rfl (lv_at hl 0 rfl) ?_
  refine pl_get (ci := 3) (v := .ref o1) (C := RX4) (T := TX4) (N := 6) hx hb hts hi_X4 hown hK hP hh hfh rfl 4 (by decide) hw_0 (fun _ h9 => h9) rfl dX4_isOne_1 ?_
  refine pl_getE (v := .ref as1) hx hb hts hi_X1 hi_X2 hi_X3 hi_X4 hi_X5 hi_X7 hown hK hP ho1 hx1 3 (by decide) hw_1 rfl dX4_isOne_4 ?_
  refine lv_iload_n hx hb dX4_isOne_7 rfl (lv_at hl 2 rfl) ?_
  refine lv_iload_n hx hb dX4_isOne_8 rfl (lv_at hl 3 rfl) ?_
  refine vp_callSi (va_Run.run (va_runV (As := [.int (zI (z)), .int (zI (w))]) (rest := []) ⟨hx, hb, hml, hown, hts⟩ (kX6_contains l D k L f as1 r1 g1 has1 hfas1 hr1 hfr1 (z) (by omega) (w) (by omega)) (cwV 2 hts gX4_isOne_X6_contains rfl rfl rfl (by decide +kernel) ⟨Nat.le_of_ble_eq_true rfl, Nat.le_of_ble_eq_true rfl⟩) (rc_preV hC hP (pl_recv hK hP has1 hfas1 (ci := 5) (q := (RX6, TX6, 1)) rfl)) rfl rfl hl.1 rfl (lv_room (Nat.le_of_ble_eq_true rfl)) dX4_isOne_9 ⟨Nat.zero_le _, Nat.zero_le _⟩)) (fun r1 hr1 => ?_)
  subst hr1
  refine zr_ifb_eq (tgt := 57) hx hb dX4_isOne_12 (by decide) (fun c2 => ?_) (fun c2 => ?_)
  · refine zr_const hx hb dX4_isOne_57 ?_
    rw [hQ]
    refine zr_top (y := bI (onB b9 g1 z w)) (by first | exact bI_f (on_n (by assumption)) | exact bI_t (on_1 (by assumption) (by first | rw [if_pos (by assumption)] | rw [if_neg (by simp [*])]) (by assumption)) | exact bI_f (on_0 (by first | rw [if_pos (by assumption)] | rw [if_neg (by simp [*])]) (by assumption))) ?_
    exact rc_zret hx hb hrt (rfl) dX4_isOne_58 hlocks
  · refine lv_aload_n hx hb dX4_isOne_15 rfl (lv_at hl 0 rfl) ?_
    refine pl_get (ci := 3) (v := .int (bI (b9))) (C := RX4) (T := TX4) (N := 6) hx hb hts hi_X4 hown hK hP hh hfh rfl 5 (by decide) hw_2 (fun _ h9 => h9) rfl dX4_isOne_16 ?_
    refine zr_ifb_eq (tgt := 37) hx hb dX4_isOne_19 (by decide) (fun c3 => ?_) (fun c3 => ?_)
    · refine lv_aload_n hx hb dX4_isOne_37 rfl (lv_at hl 0 rfl) ?_
      refine pl_get (ci := 3) (v := .ref o1) (C := RX4) (T := TX4) (N := 6) hx hb hts hi_X4 hown hK hP hh hfh rfl 4 (by decide) hw_0 (fun _ h9 => h9) rfl dX4_isOne_38 ?_
      refine pl_getE (v := .ref as1) hx hb hts hi_X1 hi_X2 hi_X3 hi_X4 hi_X5 hi_X7 hown hK hP ho1 hx1 3 (by decide) hw_1 rfl dX4_isOne_41 ?_
      refine lv_iload_n hx hb dX4_isOne_44 rfl (lv_at hl 2 rfl) ?_
      refine lv_iload_n hx hb dX4_isOne_45 rfl (lv_at hl 3 rfl) ?_
      refine vp_callSi (va_Run.run (va_runV (As := [.int (zI (z)), .int (zI (w))]) (rest := []) ⟨hx, hb, hml, hown, hts⟩ (kX6_countLyingIn l D k L f as1 r1 g1 has1 hfas1 hr1 hfr1 z w (by omega) (by omega)) (cwV 2 hts gX4_isOne_X6_countLyingIn rfl rfl rfl (by decide +kernel) ⟨Nat.le_of_ble_eq_true rfl, Nat.le_of_ble_eq_true rfl⟩) (rc_preV hC hP (pl_recv hK hP has1 hfas1 (ci := 5) (q := (RX6, TX6, 1)) rfl)) rfl rfl hl.1 rfl (lv_room (Nat.le_of_ble_eq_true rfl)) dX4_isOne_46 ⟨Nat.zero_le _, Nat.zero_le _⟩)) (fun r4 hr4 => ?_)
      subst hr4
      have hcwr4 := cwN_le g1 z (w - 1) (z + 1) w
      refine zr_const hx hb dX4_isOne_49 ?_
      refine zr_icmp_ne (tgt := 57) hx hb dX4_isOne_50 (by decide) (by omega) (by omega) (fun c5 => ?_) (fun c5 => ?_)
      · refine zr_const hx hb dX4_isOne_57 ?_
        rw [hQ]
        refine zr_top (y := bI (onB b9 g1 z w)) (by first | exact bI_f (on_n (by assumption)) | exact bI_t (on_1 (by assumption) (by first | rw [if_pos (by assumption)] | rw [if_neg (by simp [*])]) (by assumption)) | exact bI_f (on_0 (by first | rw [if_pos (by assumption)] | rw [if_neg (by simp [*])]) (by assumption))) ?_
        exact rc_zret hx hb hrt (rfl) dX4_isOne_58 hlocks
      · refine zr_const hx hb dX4_isOne_53 ?_
        refine lv_goto (tgt := 58) hx hb dX4_isOne_54 (by decide) ?_
        rw [hQ]
        refine zr_top (y := bI (onB b9 g1 z w)) (by first | exact bI_f (on_n (by assumption)) | exact bI_t (on_1 (by assumption) (by first | rw [if_pos (by assumption)] | rw [if_neg (by simp [*])]) (by assumption)) | exact bI_f (on_0 (by first | rw [if_pos (by assumption)] | rw [if_neg (by simp [*])]) (by assumption))) ?_
        exact rc_zret hx hb hrt (rfl) dX4_isOne_58 hlocks
    · refine lv_aload_n hx hb dX4_isOne_22 rfl (lv_at hl 0 rfl) ?_
      refine pl_get (ci := 3) (v := .ref o1) (C := RX4) (T := TX4) (N := 6) hx hb hts hi_X4 hown hK hP hh hfh rfl 4 (by decide) hw_0 (fun _ h9 => h9) rfl dX4_isOne_23 ?_
      refine pl_getE (v := .ref as1) hx hb hts hi_X1 hi_X2 hi_X3 hi_X4 hi_X5 hi_X7 hown hK hP ho1 hx1 3 (by decide) hw_1 rfl dX4_isOne_26 ?_
      refine lv_iload_n hx hb dX4_isOne_29 rfl (lv_at hl 2 rfl) ?_
      refine lv_iload_n hx hb dX4_isOne_30 rfl (lv_at hl 3 rfl) ?_
      refine vp_callSi (va_Run.run (va_runV (As := [.int (zI (z)), .int (zI (w))]) (rest := []) ⟨hx, hb, hml, hown, hts⟩ (kX6_countLyingRound l D k L f as1 r1 g1 has1 hfas1 hr1 hfr1 z w (by omega) (by omega)) (cwV 2 hts gX4_isOne_X6_countLyingRound rfl rfl rfl (by decide +kernel) ⟨Nat.le_of_ble_eq_true rfl, Nat.le_of_ble_eq_true rfl⟩) (rc_preV hC hP (pl_recv hK hP has1 hfas1 (ci := 5) (q := (RX6, TX6, 1)) rfl)) rfl rfl hl.1 rfl (lv_room (Nat.le_of_ble_eq_true rfl)) dX4_isOne_31 ⟨Nat.zero_le _, Nat.zero_le _⟩)) (fun r6 hr6 => ?_)
      subst hr6
      have hcwr6 := cwN_le g1 0 z w 24
      refine lv_goto (tgt := 49) hx hb dX4_isOne_34 (by decide) ?_
      refine zr_const hx hb dX4_isOne_49 ?_
      refine zr_icmp_ne (tgt := 57) hx hb dX4_isOne_50 (by decide) (by omega) (by omega) (fun c7 => ?_) (fun c7 => ?_)
      · refine zr_const hx hb dX4_isOne_57 ?_
        rw [hQ]
        refine zr_top (y := bI (onB b9 g1 z w)) (by first | exact bI_f (on_n (by assumption)) | exact bI_t (on_1 (by assumption) (by first | rw [if_pos (by assumption)] | rw [if_neg (by simp [*])]) (by assumption)) | exact bI_f (on_0 (by first | rw [if_pos (by assumption)] | rw [if_neg (by simp [*])]) (by assumption))) ?_
        exact rc_zret hx hb hrt (rfl) dX4_isOne_58 hlocks
      · refine zr_const hx hb dX4_isOne_53 ?_
        refine lv_goto (tgt := 58) hx hb dX4_isOne_54 (by decide) ?_
        rw [hQ]
        refine zr_top (y := bI (onB b9 g1 z w)) (by first | exact bI_f (on_n (by assumption)) | exact bI_t (on_1 (by assumption) (by first | rw [if_pos (by assumption)] | rw [if_neg (by simp [*])]) (by assumption)) | exact bI_f (on_0 (by first | rw [if_pos (by assumption)] | rw [if_neg (by simp [*])]) (by assumption))) ?_
        exact rc_zret hx hb hrt (rfl) dX4_isOne_58 hlocks

set_option maxHeartbeats 4000000 in
set_option maxRecDepth 100000 in
theorem kX5_isOne (l : Launch) (D : va_G) (k : Nat → ClassId) (L : List Nat) (f : Nat → va_E) (h : Nat) (d : Int) (nd : Int32) (gs as : Nat) (op : Int) (hop : 0 ≤ op ∧ op ≤ 8) (o1 : Nat) (d1 : Int) (n1 : Int32) (gs1 as1 : Nat) (hd1 : -100 ≤ d1 ∧ d1 ≤ 100) (ho1 : o1 ∈ L) (hx1 : exAt f o1 (zI d1) n1 gs1 as1) (o2 : Nat) (d2 : Int) (n2 : Int32) (gs2 as2 : Nat) (hd2 : -100 ≤ d2 ∧ d2 ≤ 100) (ho2 : o2 ∈ L) (hx2 : exAt f o2 (zI d2) n2 gs2 as2) (r1 : Nat) (g1 : Nat → Int32) (has1 : as1 ∈ L) (hfas1 : f as1 = .inr (5, [.ref r1])) (hr1 : r1 ∈ L) (hfr1 : f r1 = .inl (k 0, 24, .inl g1)) (r2 : Nat) (g2 : Nat → Int32) (has2 : as2 ∈ L) (hfas2 : f as2 = .inr (5, [.ref r2])) (hr2 : r2 ∈ L) (hfr2 : f r2 = .inl (k 0, 24, .inl g2)) (hh : h ∈ L) (hfh : f h = .inr (4, [.int (zI (d)), .int (nd), .ref gs, .ref as, .int (zI (op)), .ref o1, .ref o2]))  (tx9 : Nat) (z w : Int) (hz : 0 ≤ z ∧ z < w) (hw : w ≤ 24) : Met l yX5_isOne wsX5_isOne ({ frames := 3, cells := 0, slots := 0, locals := 71 } : Room) (va_Pc [.ref h, .ref tx9, .int (zI (z)), .int (zI (w))] (rPre D (tyL k) (va_pl L f))) (vp_Si (fun r9 => r9 = bI (paB op g1 g2 z w))) 0 0 (fun _ => False) := by
  refine Met.ofW (cc := cX5_isOne) (maxL := 6) (ret := (some .boolean)) (by decide) rfl ?_
  intro p e s m args below meth c s₁ B hml hv
  obtain ⟨rfl, hP, hC⟩ := hv
  have hK := hC.1
  have hNW := hC.2.1
  have hx := B.exec
  have hb := B.bytes
  have hrt := B.returns
  have hts := atoms_spec (ws := wsX5_isOne) B.pre
  have hown : s.vm.findClass RX5 = some m.cls := findClass_of_methodNamed B.named
  have hlocks := B.notSynchronized
  have hi_X5 : ∀ w ∈ u_ws RX5 TX5 7, w ∈ wsX5_isOne := by decide +kernel
  have hi_X1 : ∀ w ∈ u_ws RX1 TX1 5, w ∈ wsX5_isOne := by decide +kernel
  have hi_X2 : ∀ w ∈ u_ws RX2 TX2 5, w ∈ wsX5_isOne := by decide +kernel
  have hi_X3 : ∀ w ∈ u_ws RX3 TX3 7, w ∈ wsX5_isOne := by decide +kernel
  have hi_X4 : ∀ w ∈ u_ws RX4 TX4 6, w ∈ wsX5_isOne := by decide +kernel
  have hi_X7 : ∀ w ∈ u_ws RX7 TX7 7, w ∈ wsX5_isOne := by decide +kernel
  have hw_0 := hts (.fieldLink RX5 26 "Regionry$PairExpression" "other" "LRegionry$Expression;") (by decide +kernel)
  have hw_1 := hts (.fieldLink RX5 82 "Regionry$Expression" "asked" "LRegionry$RegionSet;") (by decide +kernel)
  have hw_2 := hts (.fieldLink RX5 22 "Regionry$PairExpression" "one" "LRegionry$Expression;") (by decide +kernel)
  have hw_3 := hts (.fieldLink RX5 17 "Regionry$PairExpression" "operation" "I") (by decide +kernel)
  have hl := lv_entry ([.ref h, .ref tx9, .int (zI (z)), .int (zI (w))]) (n := 6) (Nat.le_of_ble_eq_true rfl)
  rw [lg_entry_eq]
  generalize (lg_sl ([.ref h, .ref tx9, .int (zI (z)), .int (zI (w))]) ++ List.replicate (6 - (lg_sl ([.ref h, .ref tx9, .int (zI (z)), .int (zI (w))])).length) Slot.unset).toArray = ls at hl ⊢
  have hl : lv_has ls 6 [(0, .ref h), (1, .ref tx9), (2, .int (zI (z))), (3, .int (zI (w)))] := hl
  obtain ⟨Q, hQ⟩ : ∃ Q, Q = MQ below (vp_Si (fun r9 => r9 = bI (paB op g1 g2 z w))) ([.ref h, .ref tx9, .int (zI (z)), .int (zI (w))] : List Value).toArray s 0 0 (fun _ => False) := ⟨_, rfl⟩
  rw [← hQ]
  refine lv_aload_n hx hb dX5_isOne_0 rfl (lv_at hl 0 rfl) ?_
  refine pl_get (ci := 4) (v := .ref o2) (C := RX5) (T := TX5) (N := 7) hx hb hts hi_X5 hown hK hP hh hfh rfl 6 (by decide) hw_0 (fun _ h9 => h9) rfl dX5_isOne_1 ?_
  refine pl_getE (v := .ref as2) hx hb hts hi_X1 hi_X2 hi_X3 hi_X4 hi_X5 hi_X7 hown hK hP ho2 hx2 3 (by decide) hw_1 rfl dX5_isOne_4 ?_
  refine lv_astore (lv' := [(4, .ref as2), (0, .ref h), (1, .ref tx9), (2, .int (zI (z))), (3, .int (zI (w)))]) hx hb dX5_isOne_7 hl (by decide) rfl (fun ls hl => ?_)
  refine lv_aload_n hx hb dX5_isOne_9 rfl (lv_at hl 1 rfl) ?_
  refine pl_get (ci := 4) (v := .ref o1) (C := RX5) (T := TX5) (N := 7) hx hb hts hi_X5 hown hK hP hh hfh rfl 5 (by decide) hw_2 (fun _ h9 => h9) rfl dX5_isOne_10 ?_
  refine pl_getE (v := .ref as1) hx hb hts hi_X1 hi_X2 hi_X3 hi_X4 hi_X5 hi_X7 hown hK hP ho1 hx1 3 (by decide) hw_1 rfl dX5_isOne_13 ?_
  refine lv_iload_n hx hb dX5_isOne_16 rfl (lv_at hl 3 rfl) ?_
  refine lv_iload_n hx hb dX5_isOne_17 rfl (lv_at hl 4 rfl) ?_
  refine vp_callSi (va_Run.run (va_runV (As := [.int (zI (z)), .int (zI (w))]) (rest := []) ⟨hx, hb, hml, hown, hts⟩ (kX6_contains l D k L f as1 r1 g1 has1 hfas1 hr1 hfr1 (z) (by omega) (w) (by omega)) (cwV 2 hts gX5_isOne_X6_contains rfl rfl rfl (by decide +kernel) ⟨Nat.le_of_ble_eq_true rfl, Nat.le_of_ble_eq_true rfl⟩) (rc_preV hC hP (pl_recv hK hP has1 hfas1 (ci := 5) (q := (RX6, TX6, 1)) rfl)) rfl rfl hl.1 rfl (lv_room (Nat.le_of_ble_eq_true rfl)) dX5_isOne_18 ⟨Nat.zero_le _, Nat.zero_le _⟩)) (fun r1 hr1 => ?_)
  subst hr1
  refine lv_istore (lv' := [(5, .int (bI (hasB g1 z w))), (4, .ref as2), (0, .ref h), (1, .ref tx9), (2, .int (zI (z))), (3, .int (zI (w)))]) hx hb dX5_isOne_21 hl (by decide) rfl (fun ls hl => ?_)
  refine lv_aload_n hx hb dX5_isOne_23 rfl (lv_at hl 2 rfl) ?_
  refine pl_get (ci := 4) (v := .int (zI (op))) (C := RX5) (T := TX5) (N := 7) hx hb hts hi_X5 hown hK hP hh hfh rfl 4 (by decide) hw_3 (fun _ h9 => h9) rfl dX5_isOne_24 ?_
  refine zr_if_ne (tgt := 51) hx hb dX5_isOne_27 (by decide) (by omega) (fun c2 => ?_) (fun c2 => ?_)
  · refine lv_iload hx hb dX5_isOne_51 (lv_at hl 0 rfl) ?_
    refine zr_ifb_ne (tgt := 58) hx hb dX5_isOne_53 (by decide) (fun c3 => ?_) (fun c3 => ?_)
    · refine lv_aload_n hx hb dX5_isOne_58 rfl (lv_at hl 2 rfl) ?_
      refine pl_get (ci := 4) (v := .int (zI (op))) (C := RX5) (T := TX5) (N := 7) hx hb hts hi_X5 hown hK hP hh hfh rfl 4 (by decide) hw_3 (fun _ h9 => h9) rfl dX5_isOne_59 ?_
      rcases (show op = 1 ∨ op = 2 ∨ op = 3 ∨ op = 4 ∨ op = 5 ∨ op = 6 ∨ op = 7 ∨ (op < 1 ∨ 7 < op) by omega) with q4 | q4 | q4 | q4 | q4 | q4 | q4 | q4
      · refine lv_tableIn (off := 42) (tgt := 104) hx hb dX5_isOne_62 (by rw [zI_toInt (by omega), q4]; decide) (by rw [zI_toInt (by omega), q4]; decide) (by rw [zI_toInt (by omega), q4]; rfl) (by decide) ?_
        refine lv_aload hx hb dX5_isOne_104 (lv_at hl 1 rfl) ?_
        refine lv_iload_n hx hb dX5_isOne_106 rfl (lv_at hl 4 rfl) ?_
        refine lv_iload_n hx hb dX5_isOne_107 rfl (lv_at hl 5 rfl) ?_
        refine vp_callSi (va_Run.run (va_runV (As := [.int (zI (z)), .int (zI (w))]) (rest := []) ⟨hx, hb, hml, hown, hts⟩ (kX6_contains l D k L f as2 r2 g2 has2 hfas2 hr2 hfr2 (z) (by omega) (w) (by omega)) (cwV 2 hts gX5_isOne_X6_contains rfl rfl rfl (by decide +kernel) ⟨Nat.le_of_ble_eq_true rfl, Nat.le_of_ble_eq_true rfl⟩) (rc_preV hC hP (pl_recv hK hP has2 hfas2 (ci := 5) (q := (RX6, TX6, 1)) rfl)) rfl rfl hl.1 rfl (lv_room (Nat.le_of_ble_eq_true rfl)) dX5_isOne_108 ⟨Nat.zero_le _, Nat.zero_le _⟩)) (fun r5 hr5 => ?_)
        subst hr5
        rw [hQ]
        exact rc_zret hx hb hrt (congrArg bI (pa1 (by assumption) (by assumption)).symm) dX5_isOne_111 hlocks
      · refine lv_tableIn (off := 50) (tgt := 112) hx hb dX5_isOne_62 (by rw [zI_toInt (by omega), q4]; decide) (by rw [zI_toInt (by omega), q4]; decide) (by rw [zI_toInt (by omega), q4]; rfl) (by decide) ?_
        refine lv_aload hx hb dX5_isOne_112 (lv_at hl 1 rfl) ?_
        refine lv_iload_n hx hb dX5_isOne_114 rfl (lv_at hl 4 rfl) ?_
        refine lv_iload_n hx hb dX5_isOne_115 rfl (lv_at hl 5 rfl) ?_
        refine vp_callSi (va_Run.run (va_runV (As := [.int (zI (z)), .int (zI (w))]) (rest := []) ⟨hx, hb, hml, hown, hts⟩ (kX6_contains l D k L f as2 r2 g2 has2 hfas2 hr2 hfr2 (z) (by omega) (w) (by omega)) (cwV 2 hts gX5_isOne_X6_contains rfl rfl rfl (by decide +kernel) ⟨Nat.le_of_ble_eq_true rfl, Nat.le_of_ble_eq_true rfl⟩) (rc_preV hC hP (pl_recv hK hP has2 hfas2 (ci := 5) (q := (RX6, TX6, 1)) rfl)) rfl rfl hl.1 rfl (lv_room (Nat.le_of_ble_eq_true rfl)) dX5_isOne_116 ⟨Nat.zero_le _, Nat.zero_le _⟩)) (fun r6 hr6 => ?_)
        subst hr6
        refine zr_ifb_ne (tgt := 126) hx hb dX5_isOne_119 (by decide) (fun c7 => ?_) (fun c7 => ?_)
        · refine zr_const hx hb dX5_isOne_126 ?_
          rw [hQ]
          refine zr_top (y := bI (paB op g1 g2 z w)) (by first | exact bI_t (pa2_1 (by assumption) (by assumption) (by assumption)) | exact bI_f (pa2_0 (by assumption) (by assumption))) ?_
          exact rc_zret hx hb hrt (rfl) dX5_isOne_127 hlocks
        · refine zr_const hx hb dX5_isOne_122 ?_
          refine lv_goto (tgt := 127) hx hb dX5_isOne_123 (by decide) ?_
          rw [hQ]
          refine zr_top (y := bI (paB op g1 g2 z w)) (by first | exact bI_t (pa2_1 (by assumption) (by assumption) (by assumption)) | exact bI_f (pa2_0 (by assumption) (by assumption))) ?_
          exact rc_zret hx hb hrt (rfl) dX5_isOne_127 hlocks
      · refine lv_tableIn (off := 66) (tgt := 128) hx hb dX5_isOne_62 (by rw [zI_toInt (by omega), q4]; decide) (by rw [zI_toInt (by omega), q4]; decide) (by rw [zI_toInt (by omega), q4]; rfl) (by decide) ?_
        refine lv_aload hx hb dX5_isOne_128 (lv_at hl 1 rfl) ?_
        refine lv_iload_n hx hb dX5_isOne_130 rfl (lv_at hl 4 rfl) ?_
        refine lv_iload_n hx hb dX5_isOne_131 rfl (lv_at hl 5 rfl) ?_
        refine vp_callSi (va_Run.run (va_runV (As := [.int (zI (z)), .int (zI (w))]) (rest := []) ⟨hx, hb, hml, hown, hts⟩ (kX6_countLyingIn l D k L f as2 r2 g2 has2 hfas2 hr2 hfr2 z w (by omega) (by omega)) (cwV 2 hts gX5_isOne_X6_countLyingIn rfl rfl rfl (by decide +kernel) ⟨Nat.le_of_ble_eq_true rfl, Nat.le_of_ble_eq_true rfl⟩) (rc_preV hC hP (pl_recv hK hP has2 hfas2 (ci := 5) (q := (RX6, TX6, 1)) rfl)) rfl rfl hl.1 rfl (lv_room (Nat.le_of_ble_eq_true rfl)) dX5_isOne_132 ⟨Nat.zero_le _, Nat.zero_le _⟩)) (fun r8 hr8 => ?_)
        subst hr8
        have hcwr8 := cwN_le g2 z (w - 1) (z + 1) w
        refine zr_if_le (tgt := 142) hx hb dX5_isOne_135 (by decide) (by omega) (fun c9 => ?_) (fun c9 => ?_)
        · refine zr_const hx hb dX5_isOne_142 ?_
          rw [hQ]
          refine zr_top (y := bI (paB op g1 g2 z w)) (by first | exact bI_t (pa3_1 (by assumption) (by assumption) (by assumption)) | exact bI_f (pa3_0 (by assumption) (by assumption))) ?_
          exact rc_zret hx hb hrt (rfl) dX5_isOne_143 hlocks
        · refine zr_const hx hb dX5_isOne_138 ?_
          refine lv_goto (tgt := 143) hx hb dX5_isOne_139 (by decide) ?_
          rw [hQ]
          refine zr_top (y := bI (paB op g1 g2 z w)) (by first | exact bI_t (pa3_1 (by assumption) (by assumption) (by assumption)) | exact bI_f (pa3_0 (by assumption) (by assumption))) ?_
          exact rc_zret hx hb hrt (rfl) dX5_isOne_143 hlocks
      · refine lv_tableIn (off := 82) (tgt := 144) hx hb dX5_isOne_62 (by rw [zI_toInt (by omega), q4]; decide) (by rw [zI_toInt (by omega), q4]; decide) (by rw [zI_toInt (by omega), q4]; rfl) (by decide) ?_
        refine lv_aload hx hb dX5_isOne_144 (lv_at hl 1 rfl) ?_
        refine lv_iload_n hx hb dX5_isOne_146 rfl (lv_at hl 4 rfl) ?_
        refine lv_iload_n hx hb dX5_isOne_147 rfl (lv_at hl 5 rfl) ?_
        refine vp_callSi (va_Run.run (va_runV (As := [.int (zI (z)), .int (zI (w))]) (rest := []) ⟨hx, hb, hml, hown, hts⟩ (kX6_countLyingIn l D k L f as2 r2 g2 has2 hfas2 hr2 hfr2 z w (by omega) (by omega)) (cwV 2 hts gX5_isOne_X6_countLyingIn rfl rfl rfl (by decide +kernel) ⟨Nat.le_of_ble_eq_true rfl, Nat.le_of_ble_eq_true rfl⟩) (rc_preV hC hP (pl_recv hK hP has2 hfas2 (ci := 5) (q := (RX6, TX6, 1)) rfl)) rfl rfl hl.1 rfl (lv_room (Nat.le_of_ble_eq_true rfl)) dX5_isOne_148 ⟨Nat.zero_le _, Nat.zero_le _⟩)) (fun r10 hr10 => ?_)
        subst hr10
        have hcwr10 := cwN_le g2 z (w - 1) (z + 1) w
        refine zr_if_ne (tgt := 158) hx hb dX5_isOne_151 (by decide) (by omega) (fun c11 => ?_) (fun c11 => ?_)
        · refine zr_const hx hb dX5_isOne_158 ?_
          rw [hQ]
          refine zr_top (y := bI (paB op g1 g2 z w)) (by first | exact bI_t (pa4_1 (by assumption) (by assumption) (by assumption)) | exact bI_f (pa4_0 (by assumption) (by assumption))) ?_
          exact rc_zret hx hb hrt (rfl) dX5_isOne_159 hlocks
        · refine zr_const hx hb dX5_isOne_154 ?_
          refine lv_goto (tgt := 159) hx hb dX5_isOne_155 (by decide) ?_
          rw [hQ]
          refine zr_top (y := bI (paB op g1 g2 z w)) (by first | exact bI_t (pa4_1 (by assumption) (by assumption) (by assumption)) | exact bI_f (pa4_0 (by assumption) (by assumption))) ?_
          exact rc_zret hx hb hrt (rfl) dX5_isOne_159 hlocks
      · refine lv_tableIn (off := 98) (tgt := 160) hx hb dX5_isOne_62 (by rw [zI_toInt (by omega), q4]; decide) (by rw [zI_toInt (by omega), q4]; decide) (by rw [zI_toInt (by omega), q4]; rfl) (by decide) ?_
        refine lv_aload hx hb dX5_isOne_160 (lv_at hl 1 rfl) ?_
        refine lv_iload_n hx hb dX5_isOne_162 rfl (lv_at hl 4 rfl) ?_
        refine lv_iload_n hx hb dX5_isOne_163 rfl (lv_at hl 5 rfl) ?_
        refine vp_callSi (va_Run.run (va_runV (As := [.int (zI (z)), .int (zI (w))]) (rest := []) ⟨hx, hb, hml, hown, hts⟩ (kX6_countLyingRound l D k L f as2 r2 g2 has2 hfas2 hr2 hfr2 z w (by omega) (by omega)) (cwV 2 hts gX5_isOne_X6_countLyingRound rfl rfl rfl (by decide +kernel) ⟨Nat.le_of_ble_eq_true rfl, Nat.le_of_ble_eq_true rfl⟩) (rc_preV hC hP (pl_recv hK hP has2 hfas2 (ci := 5) (q := (RX6, TX6, 1)) rfl)) rfl rfl hl.1 rfl (lv_room (Nat.le_of_ble_eq_true rfl)) dX5_isOne_164 ⟨Nat.zero_le _, Nat.zero_le _⟩)) (fun r12 hr12 => ?_)
        subst hr12
        have hcwr12 := cwN_le g2 0 z w 24
        refine zr_if_le (tgt := 174) hx hb dX5_isOne_167 (by decide) (by omega) (fun c13 => ?_) (fun c13 => ?_)
        · refine zr_const hx hb dX5_isOne_174 ?_
          rw [hQ]
          refine zr_top (y := bI (paB op g1 g2 z w)) (by first | exact bI_t (pa5_1 (by assumption) (by assumption) (by assumption)) | exact bI_f (pa5_0 (by assumption) (by assumption))) ?_
          exact rc_zret hx hb hrt (rfl) dX5_isOne_175 hlocks
        · refine zr_const hx hb dX5_isOne_170 ?_
          refine lv_goto (tgt := 175) hx hb dX5_isOne_171 (by decide) ?_
          rw [hQ]
          refine zr_top (y := bI (paB op g1 g2 z w)) (by first | exact bI_t (pa5_1 (by assumption) (by assumption) (by assumption)) | exact bI_f (pa5_0 (by assumption) (by assumption))) ?_
          exact rc_zret hx hb hrt (rfl) dX5_isOne_175 hlocks
      · refine lv_tableIn (off := 114) (tgt := 176) hx hb dX5_isOne_62 (by rw [zI_toInt (by omega), q4]; decide) (by rw [zI_toInt (by omega), q4]; decide) (by rw [zI_toInt (by omega), q4]; rfl) (by decide) ?_
        refine lv_aload hx hb dX5_isOne_176 (lv_at hl 1 rfl) ?_
        refine lv_iload_n hx hb dX5_isOne_178 rfl (lv_at hl 4 rfl) ?_
        refine lv_iload_n hx hb dX5_isOne_179 rfl (lv_at hl 5 rfl) ?_
        refine vp_callSi (va_Run.run (va_runV (As := [.int (zI (z)), .int (zI (w))]) (rest := []) ⟨hx, hb, hml, hown, hts⟩ (kX6_countLyingRound l D k L f as2 r2 g2 has2 hfas2 hr2 hfr2 z w (by omega) (by omega)) (cwV 2 hts gX5_isOne_X6_countLyingRound rfl rfl rfl (by decide +kernel) ⟨Nat.le_of_ble_eq_true rfl, Nat.le_of_ble_eq_true rfl⟩) (rc_preV hC hP (pl_recv hK hP has2 hfas2 (ci := 5) (q := (RX6, TX6, 1)) rfl)) rfl rfl hl.1 rfl (lv_room (Nat.le_of_ble_eq_true rfl)) dX5_isOne_180 ⟨Nat.zero_le _, Nat.zero_le _⟩)) (fun r14 hr14 => ?_)
        subst hr14
        have hcwr14 := cwN_le g2 0 z w 24
        refine zr_if_ne (tgt := 190) hx hb dX5_isOne_183 (by decide) (by omega) (fun c15 => ?_) (fun c15 => ?_)
        · refine zr_const hx hb dX5_isOne_190 ?_
          rw [hQ]
          refine zr_top (y := bI (paB op g1 g2 z w)) (by first | exact bI_t (pa6_1 (by assumption) (by assumption) (by assumption)) | exact bI_f (pa6_0 (by assumption) (by assumption))) ?_
          exact rc_zret hx hb hrt (rfl) dX5_isOne_191 hlocks
        · refine zr_const hx hb dX5_isOne_186 ?_
          refine lv_goto (tgt := 191) hx hb dX5_isOne_187 (by decide) ?_
          rw [hQ]
          refine zr_top (y := bI (paB op g1 g2 z w)) (by first | exact bI_t (pa6_1 (by assumption) (by assumption) (by assumption)) | exact bI_f (pa6_0 (by assumption) (by assumption))) ?_
          exact rc_zret hx hb hrt (rfl) dX5_isOne_191 hlocks
      · refine lv_tableIn (off := 130) (tgt := 192) hx hb dX5_isOne_62 (by rw [zI_toInt (by omega), q4]; decide) (by rw [zI_toInt (by omega), q4]; decide) (by rw [zI_toInt (by omega), q4]; rfl) (by decide) ?_
        refine lv_aload hx hb dX5_isOne_192 (lv_at hl 1 rfl) ?_
        refine lv_iload_n hx hb dX5_isOne_194 rfl (lv_at hl 5 rfl) ?_
        refine zr_bipush hx hb dX5_isOne_195 (by decide) ?_
        refine lv_iload_n hx hb dX5_isOne_197 rfl (lv_at hl 5 rfl) ?_
        refine zr_const hx hb dX5_isOne_198 ?_
        refine zr_add hx hb dX5_isOne_199 ?_
        refine zr_bipush hx hb dX5_isOne_200 (by decide) ?_
        refine vp_callSi (va_Run.run (va_runV (As := [.int (zI (w)), .int (zI (23)), .int (zI (w + 1)), .int (zI (24))]) (rest := []) ⟨hx, hb, hml, hown, hts⟩ (kX6_countWithin l D k L f as2 r2 g2 has2 hfas2 hr2 hfr2 (w) (by omega) (23) (by omega) (w + 1) (by omega) (24) (by omega)) (cwV 4 hts gX5_isOne_X6_countWithin rfl rfl rfl (by decide +kernel) ⟨Nat.le_of_ble_eq_true rfl, Nat.le_of_ble_eq_true rfl⟩) (rc_preV hC hP (pl_recv hK hP has2 hfas2 (ci := 5) (q := (RX6, TX6, 1)) rfl)) rfl rfl hl.1 rfl (lv_room (Nat.le_of_ble_eq_true rfl)) dX5_isOne_202 ⟨Nat.zero_le _, Nat.zero_le _⟩)) (fun r16 hr16 => ?_)
        subst hr16
        have hcwr16 := cwN_le g2 w 23 (w + 1) 24
        refine zr_if_le (tgt := 212) hx hb dX5_isOne_205 (by decide) (by omega) (fun c17 => ?_) (fun c17 => ?_)
        · refine zr_const hx hb dX5_isOne_212 ?_
          rw [hQ]
          refine zr_top (y := bI (paB op g1 g2 z w)) (by first | exact bI_t (pa7_1 (by assumption) (by assumption) (by assumption)) | exact bI_f (pa7_0 (by assumption) (by assumption))) ?_
          exact rc_zret hx hb hrt (rfl) dX5_isOne_213 hlocks
        · refine zr_const hx hb dX5_isOne_208 ?_
          refine lv_goto (tgt := 213) hx hb dX5_isOne_209 (by decide) ?_
          rw [hQ]
          refine zr_top (y := bI (paB op g1 g2 z w)) (by first | exact bI_t (pa7_1 (by assumption) (by assumption) (by assumption)) | exact bI_f (pa7_0 (by assumption) (by assumption))) ?_
          exact rc_zret hx hb hrt (rfl) dX5_isOne_213 hlocks
      · refine lv_tableOut (tgt := 214) hx hb dX5_isOne_62 (by rw [zI_toInt (by omega)]; exact q4) (by decide) ?_
        refine lv_aload hx hb dX5_isOne_214 (lv_at hl 1 rfl) ?_
        refine zr_const hx hb dX5_isOne_216 ?_
        refine lv_iload_n hx hb dX5_isOne_217 rfl (lv_at hl 4 rfl) ?_
        refine zr_const hx hb dX5_isOne_218 ?_
        refine zr_sub hx hb dX5_isOne_219 ?_
        refine zr_const hx hb dX5_isOne_220 ?_
        refine lv_iload_n hx hb dX5_isOne_221 rfl (lv_at hl 4 rfl) ?_
        refine vp_callSi (va_Run.run (va_runV (As := [.int (zI (0)), .int (zI (z - 1)), .int (zI (1)), .int (zI (z))]) (rest := []) ⟨hx, hb, hml, hown, hts⟩ (kX6_countWithin l D k L f as2 r2 g2 has2 hfas2 hr2 hfr2 (0) (by omega) (z - 1) (by omega) (1) (by omega) (z) (by omega)) (cwV 4 hts gX5_isOne_X6_countWithin rfl rfl rfl (by decide +kernel) ⟨Nat.le_of_ble_eq_true rfl, Nat.le_of_ble_eq_true rfl⟩) (rc_preV hC hP (pl_recv hK hP has2 hfas2 (ci := 5) (q := (RX6, TX6, 1)) rfl)) rfl rfl hl.1 rfl (lv_room (Nat.le_of_ble_eq_true rfl)) dX5_isOne_222 ⟨Nat.zero_le _, Nat.zero_le _⟩)) (fun r18 hr18 => ?_)
        subst hr18
        have hcwr18 := cwN_le g2 0 (z - 1) 1 z
        refine zr_if_le (tgt := 232) hx hb dX5_isOne_225 (by decide) (by omega) (fun c19 => ?_) (fun c19 => ?_)
        · refine zr_const hx hb dX5_isOne_232 ?_
          rw [hQ]
          refine zr_top (y := bI (paB op g1 g2 z w)) (by first | exact bI_t (pa8_1 (by assumption) (by assumption) (by omega) (by assumption) (by assumption)) | exact bI_f (pa8_0 (by assumption) (by assumption) (by omega) (by assumption))) ?_
          exact rc_zret hx hb hrt (rfl) dX5_isOne_233 hlocks
        · refine zr_const hx hb dX5_isOne_228 ?_
          refine lv_goto (tgt := 233) hx hb dX5_isOne_229 (by decide) ?_
          rw [hQ]
          refine zr_top (y := bI (paB op g1 g2 z w)) (by first | exact bI_t (pa8_1 (by assumption) (by assumption) (by omega) (by assumption) (by assumption)) | exact bI_f (pa8_0 (by assumption) (by assumption) (by omega) (by assumption))) ?_
          exact rc_zret hx hb hrt (rfl) dX5_isOne_233 hlocks
    · refine zr_const hx hb dX5_isOne_56 ?_
      rw [hQ]
      refine zr_top (y := bI (paB op g1 g2 z w)) (bI_f (pa_n (by assumption) (by assumption))) ?_
      exact rc_zret hx hb hrt (rfl) dX5_isOne_57 hlocks
  · refine lv_iload hx hb dX5_isOne_30 (lv_at hl 0 rfl) ?_
    refine zr_ifb_ne (tgt := 45) hx hb dX5_isOne_32 (by decide) (fun c20 => ?_) (fun c20 => ?_)
    · refine zr_const hx hb dX5_isOne_45 ?_
      refine lv_goto (tgt := 50) hx hb dX5_isOne_46 (by decide) ?_
      rw [hQ]
      refine zr_top (y := bI (paB op g1 g2 z w)) (by first | exact bI_t (pa0_1 (by assumption) (by assumption)) | exact bI_t (pa0_2 (by assumption) (by assumption)) | exact bI_f (pa0_3 (by assumption) (by assumption) (by assumption))) ?_
      exact rc_zret hx hb hrt (rfl) dX5_isOne_50 hlocks
    · refine lv_aload hx hb dX5_isOne_35 (lv_at hl 1 rfl) ?_
      refine lv_iload_n hx hb dX5_isOne_37 rfl (lv_at hl 4 rfl) ?_
      refine lv_iload_n hx hb dX5_isOne_38 rfl (lv_at hl 5 rfl) ?_
      refine vp_callSi (va_Run.run (va_runV (As := [.int (zI (z)), .int (zI (w))]) (rest := []) ⟨hx, hb, hml, hown, hts⟩ (kX6_contains l D k L f as2 r2 g2 has2 hfas2 hr2 hfr2 (z) (by omega) (w) (by omega)) (cwV 2 hts gX5_isOne_X6_contains rfl rfl rfl (by decide +kernel) ⟨Nat.le_of_ble_eq_true rfl, Nat.le_of_ble_eq_true rfl⟩) (rc_preV hC hP (pl_recv hK hP has2 hfas2 (ci := 5) (q := (RX6, TX6, 1)) rfl)) rfl rfl hl.1 rfl (lv_room (Nat.le_of_ble_eq_true rfl)) dX5_isOne_39 ⟨Nat.zero_le _, Nat.zero_le _⟩)) (fun r21 hr21 => ?_)
      subst hr21
      refine zr_ifb_eq (tgt := 49) hx hb dX5_isOne_42 (by decide) (fun c22 => ?_) (fun c22 => ?_)
      · refine zr_const hx hb dX5_isOne_49 ?_
        rw [hQ]
        refine zr_top (y := bI (paB op g1 g2 z w)) (by first | exact bI_t (pa0_1 (by assumption) (by assumption)) | exact bI_t (pa0_2 (by assumption) (by assumption)) | exact bI_f (pa0_3 (by assumption) (by assumption) (by assumption))) ?_
        exact rc_zret hx hb hrt (rfl) dX5_isOne_50 hlocks
      · refine zr_const hx hb dX5_isOne_45 ?_
        refine lv_goto (tgt := 50) hx hb dX5_isOne_46 (by decide) ?_
        rw [hQ]
        refine zr_top (y := bI (paB op g1 g2 z w)) (by first | exact bI_t (pa0_1 (by assumption) (by assumption)) | exact bI_t (pa0_2 (by assumption) (by assumption)) | exact bI_f (pa0_3 (by assumption) (by assumption) (by assumption))) ?_
        exact rc_zret hx hb hrt (rfl) dX5_isOne_50 hlocks

set_option maxHeartbeats 4000000 in
set_option maxRecDepth 100000 in
theorem kX7_isOne (l : Launch) (D : va_G) (k : Nat → ClassId) (L : List Nat) (f : Nat → va_E) (h : Nat) (d : Int) (nd : Int32) (gs as : Nat) (js r1 : Nat) (g1 : Nat → Int32) (o1 o2 : Nat) (hjs : js ∈ L) (hfjs : f js = .inr (5, [.ref r1])) (hr1 : r1 ∈ L) (hfr1 : f r1 = .inl (k 0, 24, .inl g1)) (hh : h ∈ L) (hfh : f h = .inr (6, [.int (zI (d)), .int (nd), .ref gs, .ref as, .ref o1, .ref o2, .ref js]))  (tx9 : Nat) (z w : Int) (hz : 0 ≤ z ∧ z < w) (hw : w ≤ 24) : Met l yX7_isOne wsX7_isOne ({ frames := 3, cells := 0, slots := 0, locals := 71 } : Room) (va_Pc [.ref h, .ref tx9, .int (zI (z)), .int (zI (w))] (rPre D (tyL k) (va_pl L f))) (vp_Si (fun r9 => r9 = bI (spB g1 z w))) 0 0 (fun _ => False) := by
  refine Met.ofW (cc := cX7_isOne) (maxL := 4) (ret := (some .boolean)) (by decide) rfl ?_
  intro p e s m args below meth c s₁ B hml hv
  obtain ⟨rfl, hP, hC⟩ := hv
  have hK := hC.1
  have hNW := hC.2.1
  have hx := B.exec
  have hb := B.bytes
  have hrt := B.returns
  have hts := atoms_spec (ws := wsX7_isOne) B.pre
  have hown : s.vm.findClass RX7 = some m.cls := findClass_of_methodNamed B.named
  have hlocks := B.notSynchronized
  have hi_X7 : ∀ w ∈ u_ws RX7 TX7 7, w ∈ wsX7_isOne := by decide +kernel
  have hw_0 := hts (.fieldLink RX7 22 "Regionry$SpanExpression" "joined" "LRegionry$RegionSet;") (by decide +kernel)
  have hl := lv_entry ([.ref h, .ref tx9, .int (zI (z)), .int (zI (w))]) (n := 4) (Nat.le_of_ble_eq_true rfl)
  rw [lg_entry_eq]
  generalize (lg_sl ([.ref h, .ref tx9, .int (zI (z)), .int (zI (w))]) ++ List.replicate (4 - (lg_sl ([.ref h, .ref tx9, .int (zI (z)), .int (zI (w))])).length) Slot.unset).toArray = ls at hl ⊢
  have hl : lv_has ls 4 [(0, .ref h), (1, .ref tx9), (2, .int (zI (z))), (3, .int (zI (w)))] := hl
  obtain ⟨Q, hQ⟩ : ∃ Q, Q = MQ below (vp_Si (fun r9 => r9 = bI (spB g1 z w))) ([.ref h, .ref tx9, .int (zI (z)), .int (zI (w))] : List Value).toArray s 0 0 (fun _ => False) := ⟨_, rfl⟩
  rw [← hQ]
  refine lv_aload_n hx hb dX7_isOne_0 rfl (lv_at hl 0 rfl) ?_
  refine pl_get (ci := 6) (v := .ref js) (C := RX7) (T := TX7) (N := 7) hx hb hts hi_X7 hown hK hP hh hfh rfl 6 (by decide) hw_0 (fun _ h9 => h9) rfl dX7_isOne_1 ?_
  refine lv_iload_n hx hb dX7_isOne_4 rfl (lv_at hl 2 rfl) ?_
  refine lv_iload_n hx hb dX7_isOne_5 rfl (lv_at hl 3 rfl) ?_
  refine vp_callSi (va_Run.run (va_runV (As := [.int (zI (z)), .int (zI (w))]) (rest := []) ⟨hx, hb, hml, hown, hts⟩ (kX6_contains l D k L f js r1 g1 hjs hfjs hr1 hfr1 (z) (by omega) (w) (by omega)) (cwV 2 hts gX7_isOne_X6_contains rfl rfl rfl (by decide +kernel) ⟨Nat.le_of_ble_eq_true rfl, Nat.le_of_ble_eq_true rfl⟩) (rc_preV hC hP (pl_recv hK hP hjs hfjs (ci := 5) (q := (RX6, TX6, 1)) rfl)) rfl rfl hl.1 rfl (lv_room (Nat.le_of_ble_eq_true rfl)) dX7_isOne_6 ⟨Nat.zero_le _, Nat.zero_le _⟩)) (fun r1 hr1 => ?_)
  subst hr1
  refine zr_ifb_eq (tgt := 29) hx hb dX7_isOne_9 (by decide) (fun c2 => ?_) (fun c2 => ?_)
  · refine zr_const hx hb dX7_isOne_29 ?_
    rw [hQ]
    refine zr_top (y := bI (spB g1 z w)) (by first | exact bI_f (sp_n (by assumption)) | exact bI_t (sp_1 (by assumption) (by assumption)) | exact bI_f (sp_0 (by assumption))) ?_
    exact rc_zret hx hb hrt (rfl) dX7_isOne_30 hlocks
  · refine lv_aload_n hx hb dX7_isOne_12 rfl (lv_at hl 0 rfl) ?_
    refine pl_get (ci := 6) (v := .ref js) (C := RX7) (T := TX7) (N := 7) hx hb hts hi_X7 hown hK hP hh hfh rfl 6 (by decide) hw_0 (fun _ h9 => h9) rfl dX7_isOne_13 ?_
    refine lv_iload_n hx hb dX7_isOne_16 rfl (lv_at hl 2 rfl) ?_
    refine lv_iload_n hx hb dX7_isOne_17 rfl (lv_at hl 3 rfl) ?_
    refine vp_callSi (va_Run.run (va_runV (As := [.int (zI (z)), .int (zI (w))]) (rest := []) ⟨hx, hb, hml, hown, hts⟩ (kX6_countLyingIn l D k L f js r1 g1 hjs hfjs hr1 hfr1 z w (by omega) (by omega)) (cwV 2 hts gX7_isOne_X6_countLyingIn rfl rfl rfl (by decide +kernel) ⟨Nat.le_of_ble_eq_true rfl, Nat.le_of_ble_eq_true rfl⟩) (rc_preV hC hP (pl_recv hK hP hjs hfjs (ci := 5) (q := (RX6, TX6, 1)) rfl)) rfl rfl hl.1 rfl (lv_room (Nat.le_of_ble_eq_true rfl)) dX7_isOne_18 ⟨Nat.zero_le _, Nat.zero_le _⟩)) (fun r3 hr3 => ?_)
    subst hr3
    have hcwr3 := cwN_le g1 z (w - 1) (z + 1) w
    refine zr_const hx hb dX7_isOne_21 ?_
    refine zr_icmp_ne (tgt := 29) hx hb dX7_isOne_22 (by decide) (by omega) (by omega) (fun c4 => ?_) (fun c4 => ?_)
    · refine zr_const hx hb dX7_isOne_29 ?_
      rw [hQ]
      refine zr_top (y := bI (spB g1 z w)) (by first | exact bI_f (sp_n (by assumption)) | exact bI_t (sp_1 (by assumption) (by assumption)) | exact bI_f (sp_0 (by assumption))) ?_
      exact rc_zret hx hb hrt (rfl) dX7_isOne_30 hlocks
    · refine zr_const hx hb dX7_isOne_25 ?_
      refine lv_goto (tgt := 30) hx hb dX7_isOne_26 (by decide) ?_
      rw [hQ]
      refine zr_top (y := bI (spB g1 z w)) (by first | exact bI_f (sp_n (by assumption)) | exact bI_t (sp_1 (by assumption) (by assumption)) | exact bI_f (sp_0 (by assumption))) ?_
      exact rc_zret hx hb hrt (rfl) dX7_isOne_30 hlocks
