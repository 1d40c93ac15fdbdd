set_option maxHeartbeats 4000000 in
set_option maxRecDepth 100000 in
theorem kX8_letterOf (l : Launch) (D : va_G) (k : Nat → ClassId) (L : List Nat) (f : Nat → va_E) (tx la ma : Nat) (n : Int) (T : Nat → Int32) (htx : tx ∈ L) (hftx : f tx = .inr (7, [.ref la, .ref ma, .int (zI n)])) (hla : la ∈ L) (hfla : f la = .inl (k 0, 24, .inl T)) (hn : 0 ≤ n ∧ n ≤ 24) (z : Int) (hz : 0 ≤ z ∧ z < n) : Met l yX8_letterOf wsX8_letterOf ({ frames := 1, cells := 0, slots := 0, locals := 21 } : Room) (va_Pc [.ref tx, .int (zI (z))] (rPre D (tyL k) (va_pl L f))) (vp_Si (fun r9 => r9 = T z.toNat)) 0 0 (fun _ => False) := by
  refine Met.ofW (cc := cX8_letterOf) (maxL := 2) (ret := (some .int)) (by decide) rfl ?_
  intro p e s m args below meth c s₁ B hml hv
  obtain ⟨rfl, hP, hC⟩ := hv
  have hK := hC.1
  have hNW := hC.2.1
  have hx := B.exec
  have hb := B.bytes
  have hrt := B.returns
  have hts := atoms_spec (ws := wsX8_letterOf) B.pre
  have hown : s.vm.findClass RX8 = some m.cls := findClass_of_methodNamed B.named
  have hlocks := B.notSynchronized
  have hi_X8 : ∀ w ∈ u_ws RX8 TX8 3, w ∈ wsX8_letterOf := by decide +kernel
  have hw_0 := hts (.fieldLink RX8 9 "Regionry$Text" "letters" "[I") (by decide +kernel)
  have hl := lv_entry ([.ref tx, .int (zI (z))]) (n := 2) (Nat.le_of_ble_eq_true rfl)
  rw [lg_entry_eq]
  generalize (lg_sl ([.ref tx, .int (zI (z))]) ++ List.replicate (2 - (lg_sl ([.ref tx, .int (zI (z))])).length) Slot.unset).toArray = ls at hl ⊢
  have hl : lv_has ls 2 [(0, .ref tx), (1, .int (zI (z)))] := hl
  obtain ⟨Q, hQ⟩ : ∃ Q, Q = MQ below (vp_Si (fun r9 => r9 = T z.toNat)) ([.ref tx, .int (zI (z))] : List Value).toArray s 0 0 (fun _ => False) := ⟨_, rfl⟩
  rw [← hQ]
  refine lv_aload_n hx hb dX8_letterOf_0 rfl (lv_at hl 0 rfl) ?_
  refine lv_iload_n hx hb dX8_letterOf_1 rfl (lv_at hl 1 rfl) ?_
  refine vp_callSi (va_Run.run (va_runV (As := [.int (zI (z))]) (rest := []) ⟨hx, hb, hml, hown, hts⟩ (kX8_isPlace l D k L f tx la ma n T htx hftx hla hfla (by omega) (z) (by omega)) (cwV 1 hts gX8_letterOf_X8_isPlace rfl rfl rfl (by decide +kernel) ⟨Nat.le_of_ble_eq_true rfl, Nat.le_of_ble_eq_true rfl⟩) (rc_preV hC hP (pl_recv hK hP htx hftx (ci := 7) (q := (RX8, TX8, 3)) rfl)) rfl rfl hl.1 rfl (lv_room (Nat.le_of_ble_eq_true rfl)) dX8_letterOf_2 ⟨Nat.zero_le _, Nat.zero_le _⟩)) (fun r1 hr1 => ?_)
  subst hr1
  refine zr_ifb_ne (tgt := 18) hx hb dX8_letterOf_5 (by decide) (fun c2 => ?_) (fun c2 => ?_)
  · refine lv_aload_n hx hb dX8_letterOf_18 rfl (lv_at hl 0 rfl) ?_
    refine pl_get (ci := 7) (v := .ref la) (C := RX8) (T := TX8) (N := 3) hx hb hts hi_X8 hown hK hP htx hftx rfl 0 (by decide) hw_0 (fun _ h9 => h9) rfl dX8_letterOf_19 ?_
    refine lv_iload_n hx hb dX8_letterOf_22 rfl (lv_at hl 1 rfl) ?_
    refine pl_iald hx hb hK hP hla 0 hfla rfl ((z).toNat) (by omega) (by omega) (by decide) dX8_letterOf_23 ?_
    rw [hQ]
    exact rc_iret hx hb hrt (rfl) dX8_letterOf_24 hlocks
  · exact absurd (plB_t (by omega)) (by simp [*])

set_option maxHeartbeats 4000000 in
set_option maxRecDepth 100000 in
theorem kX8_letterOf_x (l : Launch) (D : va_G) (k : Nat → ClassId) (L : List Nat) (f : Nat → va_E) (tx la ma : Nat) (n : Int) (T : Nat → Int32) (htx : tx ∈ L) (hftx : f tx = .inr (7, [.ref la, .ref ma, .int (zI n)])) (hla : la ∈ L) (hfla : f la = .inl (k 0, 24, .inl T)) (hn : 0 ≤ n ∧ n ≤ 24) (z : Int) (hz : -2147483648 ≤ z ∧ z < 2147483648) (hz2 : ¬ (0 ≤ z ∧ z < n)) (hlt : l.stackTraces = false) (n0 sz : Nat) : vx_Met l yX8_letterOf wsX8_letterOf ({ frames := 6, cells := 1, slots := 6, locals := 82 } : Room) (va_Pc [.ref tx, .int (zI (z))] (xPre D (tyL k) n0 (va_pl L f) sz)) (va_Qv (fun _ => False) (pB D (va_pl L f) sz) (va_A (va_pl L f) sz)) (xX D (va_pl L f) sz (fun E u => E = "java/lang/IndexOutOfBoundsException" ∧ u = va_pl L f)) 1 6 (va_A (va_pl L f) sz) := by
  refine vx_ofW (cc := cX8_letterOf) (maxL := 2) (ret := (some .int)) (by decide) rfl ?_
  intro p e s m args below meth c s₁ B hml hno hv
  obtain ⟨rfl, ⟨hsz, hn9, hP, hC, hD0⟩, hX⟩ := hv
  have hK := hC.1
  have hNW := hC.2.1
  have hx := B.exec
  have hb := B.bytes
  have hrt := B.returns
  have hts := atoms_spec (ws := wsX8_letterOf) B.pre
  have hown : s.vm.findClass RX8 = some m.cls := findClass_of_methodNamed B.named
  have hlocks := B.notSynchronized
  subst hsz
  obtain ⟨A, hAd⟩ : ∃ A, A = va_A (va_pl L f) s.heap.size := ⟨_, rfl⟩
  have hD := hD0.self (sz := s.heap.size)
  rw [← hAd] at hD
  have hA : ∀ q : Nat, s.heap.size ≤ q → A q := fun q h => by rw [hAd]; exact Or.inr h
  have hAn : ∀ q : Nat, A q → n0 ≤ q := fun q h => by
    rw [hAd] at h
    rcases h with ⟨k9, e9, hk9⟩ | h
    · exact hD0.2 k9 _ hk9
    · exact Nat.le_trans hn9 h
  have hS : va_S A s.heap s.heap [] := va_S.rf
  have hw_0 := hts (.classLink RX8 26 "java/lang/IndexOutOfBoundsException") (by decide +kernel)
  have hw_1 := hts (.initialized "java/lang/IndexOutOfBoundsException") (by decide +kernel)
  have hl := lv_entry ([.ref tx, .int (zI (z))]) (n := 2) (Nat.le_of_ble_eq_true rfl)
  rw [lg_entry_eq]
  generalize (lg_sl ([.ref tx, .int (zI (z))]) ++ List.replicate (2 - (lg_sl ([.ref tx, .int (zI (z))])).length) Slot.unset).toArray = ls at hl ⊢
  have hl : lv_has ls 2 [(0, .ref tx), (1, .int (zI (z)))] := hl
  obtain ⟨Q, hQ⟩ : ∃ Q, Q = vx_MQ below (va_Qv (fun _ => False) (pB D (va_pl L f) s.heap.size) (va_A (va_pl L f) s.heap.size)) (xX D (va_pl L f) s.heap.size (fun E u => E = "java/lang/IndexOutOfBoundsException" ∧ u = va_pl L f)) ([.ref tx, .int (zI (z))] : List Value).toArray s 1 6 (va_A (va_pl L f) s.heap.size) := ⟨_, rfl⟩
  rw [← hQ]
  refine lv_aload_n hx hb dX8_letterOf_0 rfl (lv_at hl 0 rfl) ?_
  refine lv_iload_n hx hb dX8_letterOf_1 rfl (lv_at hl 1 rfl) ?_
  refine vp_callSi (va_Run.run (va_runV (As := [.int (zI (z))]) (rest := []) ⟨hx, hb, hml, hown, hts⟩ (kX8_isPlace l D k L f tx la ma n T htx hftx hla hfla (by omega) (z) (by omega)) (cwV 1 hts gX8_letterOf_X8_isPlace rfl rfl rfl (by decide +kernel) ⟨Nat.le_of_ble_eq_true rfl, Nat.le_of_ble_eq_true rfl⟩) (rc_preV hC hP (pl_recv hK hP htx hftx (ci := 7) (q := (RX8, TX8, 3)) rfl)) rfl rfl hl.1 rfl (lv_room (Nat.le_of_ble_eq_true rfl)) dX8_letterOf_2 ⟨Nat.zero_le _, Nat.zero_le _⟩)) (fun r1 hr1 => ?_)
  subst hr1
  refine zr_ifb_ne (tgt := 18) hx hb dX8_letterOf_5 (by decide) (fun c2 => ?_) (fun c2 => ?_)
  · exact absurd (plB_f hz2) (by simp [*])
  · rw [hQ]
    exact px_throw (own := RX8) (cls := "java/lang/IndexOutOfBoundsException") (text := "no such place") (ik := 26) (is := 28) (ic := 30) hx hb hlt hown (by decide) hw_0 hw_1 (by decide) hX (px_hat hts hNW hX (by decide +kernel) (by decide +kernel) (by decide +kernel)) (by decide +kernel) hP (by rw [← hAd]; exact hD) (by rw [← hAd]; exact hS) (by rw [← hAd]; exact hAn) (hl.1.trans hml.symm) dX8_letterOf_8 dX8_letterOf_11 dX8_letterOf_12 dX8_letterOf_14 dX8_letterOf_17 hno (Nat.le_of_ble_eq_true rfl) (Nat.le_of_ble_eq_true rfl) (Nat.le_of_ble_eq_true rfl) (Nat.le_of_ble_eq_true rfl) hlocks (Nat.le_of_ble_eq_true rfl) (Nat.le_of_ble_eq_true rfl) (⟨rfl, rfl⟩)

set_option maxHeartbeats 4000000 in
set_option maxRecDepth 100000 in
theorem kX8_marksOf (l : Launch) (D : va_G) (k : Nat → ClassId) (L : List Nat) (f : Nat → va_E) (tx la ma : Nat) (n : Int) (T : Nat → Int32) (htx : tx ∈ L) (hftx : f tx = .inr (7, [.ref la, .ref ma, .int (zI n)])) (hla : la ∈ L) (hfla : f la = .inl (k 0, 24, .inl T)) (hn : 0 ≤ n ∧ n ≤ 24) (ms mr : Nat → Nat) (M : Nat → Option Nat) (R : Nat → Nat → Int32) (hma : ma ∈ L) (hfma : f ma = .inl (k 3, 4, .inr (.inr (.inr (.inr M))))) (hM : ∀ j, j < 4 → M j = some (ms j)) (hms : ∀ j, j < 4 → ms j ∈ L) (hfms : ∀ j, j < 4 → f (ms j) = .inr (5, [.ref (mr j)])) (hmr : ∀ j, j < 4 → mr j ∈ L) (hfmr : ∀ j, j < 4 → f (mr j) = .inl (k 0, 24, .inl (R j))) (hinj : ∀ i j, i < 4 → j < 4 → mr i = mr j → i = j) (hlm : ∀ j, j < 4 → la ≠ mr j) (z : Int) (hz : 0 ≤ z ∧ z < 4) : Met l yX8_marksOf wsX8_marksOf ({ frames := 0, cells := 0, slots := 0, locals := 0 } : Room) (va_Pc [.ref tx, .int (zI (z))] (rPre D (tyL k) (va_pl L f))) (va_Sr (fun r9 => r9 = ms z.toNat) (fun k => .ref k)) 0 0 (fun _ => False) := by
  refine Met.ofW (cc := cX8_marksOf) (maxL := 2) (ret := (some (.object "Regionry$RegionSet"))) (by decide) rfl ?_
  intro p e s m args below meth c s₁ B hml hv
  obtain ⟨rfl, hP, hC⟩ := hv
  have hK := hC.1
  have hNW := hC.2.1
  have hx := B.exec
  have hb := B.bytes
  have hrt := B.returns
  have hts := atoms_spec (ws := wsX8_marksOf) B.pre
  have hown : s.vm.findClass RX8 = some m.cls := findClass_of_methodNamed B.named
  have hlocks := B.notSynchronized
  have hi_X8 : ∀ w ∈ u_ws RX8 TX8 3, w ∈ wsX8_marksOf := by decide +kernel
  have hw_0 := hts (.fieldLink RX8 17 "Regionry$Text" "marks" "[LRegionry$RegionSet;") (by decide +kernel)
  have hl := lv_entry ([.ref tx, .int (zI (z))]) (n := 2) (Nat.le_of_ble_eq_true rfl)
  rw [lg_entry_eq]
  generalize (lg_sl ([.ref tx, .int (zI (z))]) ++ List.replicate (2 - (lg_sl ([.ref tx, .int (zI (z))])).length) Slot.unset).toArray = ls at hl ⊢
  have hl : lv_has ls 2 [(0, .ref tx), (1, .int (zI (z)))] := hl
  obtain ⟨Q, hQ⟩ : ∃ Q, Q = MQ below (va_Sr (fun r9 => r9 = ms z.toNat) (fun k => .ref k)) ([.ref tx, .int (zI (z))] : List Value).toArray s 0 0 (fun _ => False) := ⟨_, rfl⟩
  rw [← hQ]
  refine lv_iload_n hx hb dX8_marksOf_0 rfl (lv_at hl 1 rfl) ?_
  refine zr_if_lt (tgt := 22) hx hb dX8_marksOf_1 (by decide) (by omega) (fun c1 => ?_) (fun c1 => ?_)
  · exfalso; omega
  · refine lv_iload_n hx hb dX8_marksOf_4 rfl (lv_at hl 1 rfl) ?_
    refine lv_aload_n hx hb dX8_marksOf_5 rfl (lv_at hl 0 rfl) ?_
    refine pl_get (ci := 7) (v := .ref ma) (C := RX8) (T := TX8) (N := 3) hx hb hts hi_X8 hown hK hP htx hftx rfl 1 (by decide) hw_0 (fun _ h9 => h9) rfl dX8_marksOf_6 ?_
    refine pl_alen (ty := .object RX6) hx hb hK hP hma 3 hfma rfl (4) rfl dX8_marksOf_9 ?_
    refine zr_icmp_ge (tgt := 22) hx hb dX8_marksOf_10 (by decide) (by omega) (by omega) (fun c2 => ?_) (fun c2 => ?_)
    · exfalso; omega
    · refine lv_aload_n hx hb dX8_marksOf_13 rfl (lv_at hl 0 rfl) ?_
      refine pl_get (ci := 7) (v := .ref ma) (C := RX8) (T := TX8) (N := 3) hx hb hts hi_X8 hown hK hP htx hftx rfl 1 (by decide) hw_0 (fun _ h9 => h9) rfl dX8_marksOf_14 ?_
      refine lv_iload_n hx hb dX8_marksOf_17 rfl (lv_at hl 1 rfl) ?_
      refine pl_aldq hx hb hK hP hma 3 hfma rfl ((z).toNat) (by omega) (by omega) (by decide) dX8_marksOf_18 ?_
      rw [hM z.toNat (by omega)]
      refine lv_ifnonnull (tgt := 32) hx hb dX8_marksOf_19 (by decide) ?_
      refine lv_aload_n hx hb dX8_marksOf_32 rfl (lv_at hl 0 rfl) ?_
      refine pl_get (ci := 7) (v := .ref ma) (C := RX8) (T := TX8) (N := 3) hx hb hts hi_X8 hown hK hP htx hftx rfl 1 (by decide) hw_0 (fun _ h9 => h9) rfl dX8_marksOf_33 ?_
      refine lv_iload_n hx hb dX8_marksOf_36 rfl (lv_at hl 1 rfl) ?_
      refine pl_aldq hx hb hK hP hma 3 hfma rfl ((z).toNat) (by omega) (by omega) (by decide) dX8_marksOf_37 ?_
      rw [hM z.toNat (by omega)]
      rw [hQ]
      exact rc_aret hx hb hrt (rfl) dX8_marksOf_38 hlocks

set_option maxHeartbeats 4000000 in
set_option maxRecDepth 100000 in
theorem kX8_marksOf_x (l : Launch) (D : va_G) (k : Nat → ClassId) (L : List Nat) (f : Nat → va_E) (tx la ma : Nat) (n : Int) (T : Nat → Int32) (htx : tx ∈ L) (hftx : f tx = .inr (7, [.ref la, .ref ma, .int (zI n)])) (hla : la ∈ L) (hfla : f la = .inl (k 0, 24, .inl T)) (hn : 0 ≤ n ∧ n ≤ 24) (M : Nat → Option Nat) (hma : ma ∈ L) (hfma : f ma = .inl (k 3, 4, .inr (.inr (.inr (.inr M))))) (z : Int) (hz : -2147483648 ≤ z ∧ z < 2147483648) (hz2 : ¬ (0 ≤ z ∧ z < 4)) (hlt : l.stackTraces = false) (n0 sz : Nat) : vx_Met l yX8_marksOf wsX8_marksOf ({ frames := 6, cells := 1, slots := 6, locals := 82 } : Room) (va_Pc [.ref tx, .int (zI (z))] (xPre D (tyL k) n0 (va_pl L f) sz)) (va_Qv (fun _ => False) (pB D (va_pl L f) sz) (va_A (va_pl L f) sz)) (xX D (va_pl L f) sz (fun E u => E = "java/lang/IndexOutOfBoundsException" ∧ u = va_pl L f)) 1 6 (va_A (va_pl L f) sz) := by
  refine vx_ofW (cc := cX8_marksOf) (maxL := 2) (ret := (some (.object "Regionry$RegionSet"))) (by decide) rfl ?_
  intro p e s m args below meth c s₁ B hml hno hv
  obtain ⟨rfl, ⟨hsz, hn9, hP, hC, hD0⟩, hX⟩ := hv
  have hK := hC.1
  have hNW := hC.2.1
  have hx := B.exec
  have hb := B.bytes
  have hrt := B.returns
  have hts := atoms_spec (ws := wsX8_marksOf) B.pre
  have hown : s.vm.findClass RX8 = some m.cls := findClass_of_methodNamed B.named
  have hlocks := B.notSynchronized
  subst hsz
  obtain ⟨A, hAd⟩ : ∃ A, A = va_A (va_pl L f) s.heap.size := ⟨_, rfl⟩
  have hD := hD0.self (sz := s.heap.size)
  rw [← hAd] at hD
  have hA : ∀ q : Nat, s.heap.size ≤ q → A q := fun q h => by rw [hAd]; exact Or.inr h
  have hAn : ∀ q : Nat, A q → n0 ≤ q := fun q h => by
    rw [hAd] at h
    rcases h with ⟨k9, e9, hk9⟩ | h
    · exact hD0.2 k9 _ hk9
    · exact Nat.le_trans hn9 h
  have hS : va_S A s.heap s.heap [] := va_S.rf
  have hi_X8 : ∀ w ∈ u_ws RX8 TX8 3, w ∈ wsX8_marksOf := by decide +kernel
  have hw_0 := hts (.classLink RX8 26 "java/lang/IndexOutOfBoundsException") (by decide +kernel)
  have hw_1 := hts (.initialized "java/lang/IndexOutOfBoundsException") (by decide +kernel)
  have hw_2 := hts (.fieldLink RX8 17 "Regionry$Text" "marks" "[LRegionry$RegionSet;") (by decide +kernel)
  have hl := lv_entry ([.ref tx, .int (zI (z))]) (n := 2) (Nat.le_of_ble_eq_true rfl)
  rw [lg_entry_eq]
  generalize (lg_sl ([.ref tx, .int (zI (z))]) ++ List.replicate (2 - (lg_sl ([.ref tx, .int (zI (z))])).length) Slot.unset).toArray = ls at hl ⊢
  have hl : lv_has ls 2 [(0, .ref tx), (1, .int (zI (z)))] := hl
  obtain ⟨Q, hQ⟩ : ∃ Q, Q = vx_MQ below (va_Qv (fun _ => False) (pB D (va_pl L f) s.heap.size) (va_A (va_pl L f) s.heap.size)) (xX D (va_pl L f) s.heap.size (fun E u => E = "java/lang/IndexOutOfBoundsException" ∧ u = va_pl L f)) ([.ref tx, .int (zI (z))] : List Value).toArray s 1 6 (va_A (va_pl L f) s.heap.size) := ⟨_, rfl⟩
  rw [← hQ]
  refine lv_iload_n hx hb dX8_marksOf_0 rfl (lv_at hl 1 rfl) ?_
  refine zr_if_lt (tgt := 22) hx hb dX8_marksOf_1 (by decide) (by omega) (fun c1 => ?_) (fun c1 => ?_)
  · rw [hQ]
    exact px_throw (own := RX8) (cls := "java/lang/IndexOutOfBoundsException") (text := "no such kind") (ik := 26) (is := 65) (ic := 30) hx hb hlt hown (by decide) hw_0 hw_1 (by decide) hX (px_hat hts hNW hX (by decide +kernel) (by decide +kernel) (by decide +kernel)) (by decide +kernel) hP (by rw [← hAd]; exact hD) (by rw [← hAd]; exact hS) (by rw [← hAd]; exact hAn) (hl.1.trans hml.symm) dX8_marksOf_22 dX8_marksOf_25 dX8_marksOf_26 dX8_marksOf_28 dX8_marksOf_31 hno (Nat.le_of_ble_eq_true rfl) (Nat.le_of_ble_eq_true rfl) (Nat.le_of_ble_eq_true rfl) (Nat.le_of_ble_eq_true rfl) hlocks (Nat.le_of_ble_eq_true rfl) (Nat.le_of_ble_eq_true rfl) (⟨rfl, rfl⟩)
  · refine lv_iload_n hx hb dX8_marksOf_4 rfl (lv_at hl 1 rfl) ?_
    refine lv_aload_n hx hb dX8_marksOf_5 rfl (lv_at hl 0 rfl) ?_
    refine pl_get (ci := 7) (v := .ref ma) (C := RX8) (T := TX8) (N := 3) hx hb hts hi_X8 hown hK hP htx hftx rfl 1 (by decide) hw_2 (fun _ h9 => h9) rfl dX8_marksOf_6 ?_
    refine pl_alen (ty := .object RX6) hx hb hK hP hma 3 hfma rfl (4) rfl dX8_marksOf_9 ?_
    refine zr_icmp_ge (tgt := 22) hx hb dX8_marksOf_10 (by decide) (by omega) (by omega) (fun c2 => ?_) (fun c2 => ?_)
    · rw [hQ]
      exact px_throw (own := RX8) (cls := "java/lang/IndexOutOfBoundsException") (text := "no such kind") (ik := 26) (is := 65) (ic := 30) hx hb hlt hown (by decide) hw_0 hw_1 (by decide) hX (px_hat hts hNW hX (by decide +kernel) (by decide +kernel) (by decide +kernel)) (by decide +kernel) hP (by rw [← hAd]; exact hD) (by rw [← hAd]; exact hS) (by rw [← hAd]; exact hAn) (hl.1.trans hml.symm) dX8_marksOf_22 dX8_marksOf_25 dX8_marksOf_26 dX8_marksOf_28 dX8_marksOf_31 hno (Nat.le_of_ble_eq_true rfl) (Nat.le_of_ble_eq_true rfl) (Nat.le_of_ble_eq_true rfl) (Nat.le_of_ble_eq_true rfl) hlocks (Nat.le_of_ble_eq_true rfl) (Nat.le_of_ble_eq_true rfl) (⟨rfl, rfl⟩)
    · exfalso; omega

set_option maxHeartbeats 4000000 in
set_option maxRecDepth 100000 in
theorem kX9_isLetter (l : Launch) (D : va_G) (k : Nat → ClassId) (L : List Nat) (f : Nat → va_E) (z : Int) (hz : -2147483648 ≤ z ∧ z < 2147483648) : Met l yX9_isLetter wsX9_isLetter ({ frames := 0, cells := 0, slots := 0, locals := 0 } : Room) (va_Pc [.int (zI (z))] (rPre D (tyL k) (va_pl L f))) (vp_Si (fun r9 => r9 = bI (plB 6 z))) 0 0 (fun _ => False) := by
  refine Met.ofW (cc := cX9_isLetter) (maxL := 1) (ret := (some .boolean)) (by decide) rfl ?_
  intro p e s m args below meth c s₁ B hml hv
  obtain ⟨rfl, hP, hC⟩ := hv
  have hK := hC.1
  have hNW := hC.2.1
  have hx := B.exec
  have hb := B.bytes
  have hrt := B.returns
  have hts := atoms_spec (ws := wsX9_isLetter) B.pre
  have hown : s.vm.findClass RX9 = some m.cls := findClass_of_methodNamed B.named
  have hlocks := B.notSynchronized
  have hl := lv_entry ([.int (zI (z))]) (n := 1) (Nat.le_of_ble_eq_true rfl)
  rw [lg_entry_eq]
  generalize (lg_sl ([.int (zI (z))]) ++ List.replicate (1 - (lg_sl ([.int (zI (z))])).length) Slot.unset).toArray = ls at hl ⊢
  have hl : lv_has ls 1 [(0, .int (zI (z)))] := hl
  obtain ⟨Q, hQ⟩ : ∃ Q, Q = MQ below (vp_Si (fun r9 => r9 = bI (plB 6 z))) ([.int (zI (z))] : List Value).toArray s 0 0 (fun _ => False) := ⟨_, rfl⟩
  rw [← hQ]
  refine lv_iload_n hx hb dX9_isLetter_0 rfl (lv_at hl 0 rfl) ?_
  refine zr_if_lt (tgt := 14) hx hb dX9_isLetter_1 (by decide) (by omega) (fun c1 => ?_) (fun c1 => ?_)
  · refine zr_const hx hb dX9_isLetter_14 ?_
    rw [hQ]
    refine zr_top (y := bI (plB 6 z)) (by first | exact bI_t (plB_t (by omega)) | exact bI_f (plB_f (by omega))) ?_
    exact rc_zret hx hb hrt (rfl) dX9_isLetter_15 hlocks
  · refine lv_iload_n hx hb dX9_isLetter_4 rfl (lv_at hl 0 rfl) ?_
    refine zr_bipush hx hb dX9_isLetter_5 (by decide) ?_
    refine zr_icmp_ge (tgt := 14) hx hb dX9_isLetter_7 (by decide) (by omega) (by omega) (fun c2 => ?_) (fun c2 => ?_)
    · refine zr_const hx hb dX9_isLetter_14 ?_
      rw [hQ]
      refine zr_top (y := bI (plB 6 z)) (by first | exact bI_t (plB_t (by omega)) | exact bI_f (plB_f (by omega))) ?_
      exact rc_zret hx hb hrt (rfl) dX9_isLetter_15 hlocks
    · refine zr_const hx hb dX9_isLetter_10 ?_
      refine lv_goto (tgt := 15) hx hb dX9_isLetter_11 (by decide) ?_
      rw [hQ]
      refine zr_top (y := bI (plB 6 z)) (by first | exact bI_t (plB_t (by omega)) | exact bI_f (plB_f (by omega))) ?_
      exact rc_zret hx hb hrt (rfl) dX9_isLetter_15 hlocks

set_option maxHeartbeats 4000000 in
set_option maxRecDepth 100000 in
theorem kX8_put (l : Launch) (D : va_G) (k : Nat → ClassId) (L : List Nat) (f : Nat → va_E) (tx la ma : Nat) (n : Int) (T : Nat → Int32) (htx : tx ∈ L) (hftx : f tx = .inr (7, [.ref la, .ref ma, .int (zI n)])) (hla : la ∈ L) (hfla : f la = .inl (k 0, 24, .inl T)) (hn : 0 ≤ n ∧ n ≤ 24) (ms mr : Nat → Nat) (M : Nat → Option Nat) (R : Nat → Nat → Int32) (hma : ma ∈ L) (hfma : f ma = .inl (k 3, 4, .inr (.inr (.inr (.inr M))))) (hM : ∀ j, j < 4 → M j = some (ms j)) (hms : ∀ j, j < 4 → ms j ∈ L) (hfms : ∀ j, j < 4 → f (ms j) = .inr (5, [.ref (mr j)])) (hmr : ∀ j, j < 4 → mr j ∈ L) (hfmr : ∀ j, j < 4 → f (mr j) = .inl (k 0, 24, .inl (R j))) (hinj : ∀ i j, i < 4 → j < 4 → mr i = mr j → i = j) (hlm : ∀ j, j < 4 → la ≠ mr j) (z y : Int) (hz : 0 ≤ z ∧ z ≤ n) (hy : 0 ≤ y ∧ y < 6) (hn2 : n < 24) (n0 sz : Nat) : Met l yX8_put wsX8_put ({ frames := 4, cells := 0, slots := 0, locals := 83 } : Room) (va_Pc [.ref tx, .int (zI (z)), .int (zI (y))] (pPre D (tyL k) n0 (va_pl L f) sz)) (va_Qi (fun r9 u => r9 = zI (n + 1) ∧ ∃ G : Nat → Nat → Int32, (∀ i, i < 4 → ∀ j : Nat, j < 24 → G i j = op2 (R i) z 24 j) ∧ ∃ F, u = va_pl L F ∧ F tx = .inr (7, [.ref la, .ref ma, .int (zI (n + 1))]) ∧ F la = .inl (k 0, 24, .inl (upd (shU T z n z) z.toNat (zI y))) ∧ (∀ i, i < 4 → F (mr i) = .inl (k 0, 24, .inl (G i))) ∧ ∀ a, a ≠ tx → a ≠ la → (∀ i, i < 4 → a ≠ mr i) → F a = f a) (pB D (va_pl L f) sz) (va_A (va_pl L f) sz)) 0 0 (va_A (va_pl L f) sz) := by
  refine Met.ofW (cc := cX8_put) (maxL := 4) (ret := (some .int)) (by decide) rfl ?_
  intro p e s m args below meth c s₁ B hml hv
  obtain ⟨rfl, hsz, hn9, hP, hC, hD0⟩ := hv
  have hK := hC.1
  have hNW := hC.2.1
  have hx := B.exec
  have hb := B.bytes
  have hrt := B.returns
  have hts := atoms_spec (ws := wsX8_put) B.pre
  have hown : s.vm.findClass RX8 = some m.cls := findClass_of_methodNamed B.named
  have hlocks := B.notSynchronized
  subst hsz
  obtain ⟨A, hAd⟩ : ∃ A, A = va_A (va_pl L f) s.heap.size := ⟨_, rfl⟩
  have hD := hD0.self (sz := s.heap.size)
  rw [← hAd] at hD
  have hA : ∀ q : Nat, s.heap.size ≤ q → A q := fun q h => by rw [hAd]; exact Or.inr h
  have hAn : ∀ q : Nat, A q → n0 ≤ q := fun q h => by
    rw [hAd] at h
    rcases h with ⟨k9, e9, hk9⟩ | h
    · exact hD0.2 k9 _ hk9
    · exact Nat.le_trans hn9 h
  have hS : va_S A s.heap s.heap [] := va_S.rf
  have hi_X8 : ∀ w ∈ u_ws RX8 TX8 3, w ∈ wsX8_put := by decide +kernel
  have hw_0 := hts (.fieldLink RX8 22 "Regionry$Text" "size" "I") (by decide +kernel)
  have hw_1 := hts (.initialized RX9) (by decide +kernel)
  have hw_2 := hts (.static yX9_isLetter) (by decide +kernel)
  have hw_3 := hts (.fieldLink RX8 9 "Regionry$Text" "letters" "[I") (by decide +kernel)
  have hw_4 := hts (.fieldLink RX8 17 "Regionry$Text" "marks" "[LRegionry$RegionSet;") (by decide +kernel)
  have hl := lv_entry ([.ref tx, .int (zI (z)), .int (zI (y))]) (n := 4) (Nat.le_of_ble_eq_true rfl)
  rw [lg_entry_eq]
  generalize (lg_sl ([.ref tx, .int (zI (z)), .int (zI (y))]) ++ List.replicate (4 - (lg_sl ([.ref tx, .int (zI (z)), .int (zI (y))])).length) Slot.unset).toArray = ls at hl ⊢
  have hl : lv_has ls 4 [(0, .ref tx), (1, .int (zI (z))), (2, .int (zI (y)))] := hl
  obtain ⟨Q, hQ⟩ : ∃ Q, Q = MQ below (va_Qi (fun r9 u => r9 = zI (n + 1) ∧ ∃ G : Nat → Nat → Int32, (∀ i, i < 4 → ∀ j : Nat, j < 24 → G i j = op2 (R i) z 24 j) ∧ ∃ F, u = va_pl L F ∧ F tx = .inr (7, [.ref la, .ref ma, .int (zI (n + 1))]) ∧ F la = .inl (k 0, 24, .inl (upd (shU T z n z) z.toNat (zI y))) ∧ (∀ i, i < 4 → F (mr i) = .inl (k 0, 24, .inl (G i))) ∧ ∀ a, a ≠ tx → a ≠ la → (∀ i, i < 4 → a ≠ mr i) → F a = f a) (pB D (va_pl L f) s.heap.size) (va_A (va_pl L f) s.heap.size)) ([.ref tx, .int (zI (z)), .int (zI (y))] : List Value).toArray s 0 0 (va_A (va_pl L f) s.heap.size) := ⟨_, rfl⟩
  rw [← hQ]
  refine lv_iload_n hx hb dX8_put_0 rfl (lv_at hl 1 rfl) ?_
  refine zr_if_lt (tgt := 12) hx hb dX8_put_1 (by decide) (by omega) (fun c1 => ?_) (fun c1 => ?_)
  · exfalso; omega
  · refine lv_iload_n hx hb dX8_put_4 rfl (lv_at hl 1 rfl) ?_
    refine lv_aload_n hx hb dX8_put_5 rfl (lv_at hl 0 rfl) ?_
    refine pl_get (ci := 7) (v := .int (zI (n))) (C := RX8) (T := TX8) (N := 3) hx hb hts hi_X8 hown hK hP htx hftx rfl 2 (by decide) hw_0 (fun _ h9 => h9) rfl dX8_put_6 ?_
    refine zr_icmp_le (tgt := 22) hx hb dX8_put_9 (by decide) (by omega) (by omega) (fun c2 => ?_) (fun c2 => ?_)
    · refine lv_iload_n hx hb dX8_put_22 rfl (lv_at hl 2 rfl) ?_
      refine vp_callSi (va_Run.run (va_runSN (As := [.int (zI (y))]) (rest := []) ⟨hx, hb, hml, hown, hts⟩ (kX9_isLetter l D k L f (y) (by omega)) ⟨va_cnB 1 hts gX8_put_X9_isLetter_n33 rfl rfl rfl (hNW (.methodLinkNest RX8 33 yX9_isLetter "Regionry") (by decide +kernel)) hw_1 (by decide +kernel) ⟨Nat.le_of_ble_eq_true rfl, Nat.le_of_ble_eq_true rfl⟩, hw_2, trivial⟩ (rc_preS hC hP) rfl rfl hl.1 rfl (lv_room (Nat.le_of_ble_eq_true rfl)) dX8_put_23 ⟨Nat.zero_le _, Nat.zero_le _⟩)) (fun r3 hr3 => ?_)
      subst hr3
      refine zr_ifb_ne (tgt := 39) hx hb dX8_put_26 (by decide) (fun c4 => ?_) (fun c4 => ?_)
      · refine lv_aload_n hx hb dX8_put_39 rfl (lv_at hl 0 rfl) ?_
        refine pl_get (ci := 7) (v := .int (zI (n))) (C := RX8) (T := TX8) (N := 3) hx hb hts hi_X8 hown hK hP htx hftx rfl 2 (by decide) hw_0 (fun _ h9 => h9) rfl dX8_put_40 ?_
        refine zr_bipush hx hb dX8_put_43 (by decide) ?_
        refine zr_icmp_lt (tgt := 58) hx hb dX8_put_45 (by decide) (by omega) (by omega) (fun c5 => ?_) (fun c5 => ?_)
        · refine lv_aload_n hx hb dX8_put_58 rfl (lv_at hl 0 rfl) ?_
          refine pl_get (ci := 7) (v := .int (zI (n))) (C := RX8) (T := TX8) (N := 3) hx hb hts hi_X8 hown hK hP htx hftx rfl 2 (by decide) hw_0 (fun _ h9 => h9) rfl dX8_put_59 ?_
          refine lv_istore_n (lv' := [(3, .int (zI (n))), (0, .ref tx), (1, .int (zI (z))), (2, .int (zI (y)))]) hx hb dX8_put_62 rfl hl (by decide) rfl (fun ls hl => ?_)
          have cut_63 : ∀ (n9 : Nat) (z3 : Int), (z ≤ z3 ∧ z3 ≤ n) → z3 < (n9 : Int) → ∀ (H : Heap) (locs : List Loc), va_P D vwCl (va_pl L (va_up f la (.inl (k 0, 24, .inl (shU T z n z3))))) H → va_D A (va_pl L (va_up f la (.inl (k 0, 24, .inl (shU T z n z3))))) → va_S A s.heap H locs → ∀ (ls : Array Slot), lv_has ls 4 [(0, .ref tx), (1, .int (zI (z))), (2, .int (zI (y))), (3, .int (zI (z3)))] → W p l e (headSpec wsX8_put ({ frames := 4, cells := 0, slots := 0, locals := 83 } : Room)).room s m ([.ref tx, .int (zI (z)), .int (zI (y))] : List Value).toArray below meth c H locs 0 0 Q (F0 m 63 ls []) := by
            intro n9
            induction n9 with
            | zero =>
              intro z3 hz3 hfu
              exact absurd hfu (by omega)
            | succ n9 ih_63 =>
              intro z3 hz3 hfu H locs hP hD hS ls hl
              refine lv_iload_n hx hb dX8_put_63 rfl (lv_at hl 3 rfl) ?_
              refine lv_iload_n hx hb dX8_put_64 rfl (lv_at hl 1 rfl) ?_
              refine zr_icmp_le (tgt := 88) hx hb dX8_put_65 (by decide) (by omega) (by omega) (fun c6 => ?_) (fun c6 => ?_)
              · have hzz : z3 = z := by omega
                rw [hzz] at hP hD
                refine lv_aload_n hx hb dX8_put_88 rfl (lv_at hl 0 rfl) ?_
                refine pl_get (ci := 7) (v := .ref la) (C := RX8) (T := TX8) (N := 3) hx hb hts hi_X8 hown hK hP htx ((va_up_ne _ _ (ne_k hftx hfla (by simp))).trans hftx) rfl 0 (by decide) hw_3 (fun _ h9 => h9) rfl dX8_put_89 ?_
                refine lv_iload_n hx hb dX8_put_92 rfl (lv_at hl 1 rfl) ?_
                refine lv_iload_n hx hb dX8_put_93 rfl (lv_at hl 2 rfl) ?_
                refine pl_iast (x := (zI (y))) hx hb hK hP hD hS hla 0 (va_up_self _ _ _) rfl ((z).toNat) (by omega) (by omega) (by decide) dX8_put_94 (fun H locs hP hD hS => ?_)
                rw [bx_uu] at hP hD
                have hP : va_P D vwCl (va_pl L (va_up f la (.inl (k 0, 24, .inl (upd ((shU T z n z)) ((z).toNat) (zI (y))))))) H := hP
                have hD : va_D A (va_pl L (va_up f la (.inl (k 0, 24, .inl (upd ((shU T z n z)) ((z).toNat) (zI (y))))))) := hD
                refine lv_aload_n hx hb dX8_put_95 rfl (lv_at hl 0 rfl) ?_
                refine lv_dup hx hb dX8_put_96 rfl ?_
                refine pl_get (ci := 7) (v := .int (zI (n))) (C := RX8) (T := TX8) (N := 3) hx hb hts hi_X8 hown hK hP htx ((va_up_ne _ _ (ne_k hftx hfla (by simp))).trans hftx) rfl 2 (by decide) hw_0 (fun _ h9 => h9) rfl dX8_put_97 ?_
                refine zr_const hx hb dX8_put_100 ?_
                refine zr_add hx hb dX8_put_101 ?_
                refine pl_put (ci := 7) (v := .int (zI (n + 1))) (ty := .int) (C := RX8) (T := TX8) (N := 3) hx hb hts hi_X8 tyX8 tyX8_ok nmX8 hown hK hP hD hS htx ((va_up_ne _ _ (ne_k hftx hfla (by simp))).trans hftx) rfl 2 (by decide) hw_0 (fun _ h9 => h9) rfl (by decide +kernel) rfl rfl (Nat.le_of_ble_eq_true rfl) dX8_put_102 (fun H locs hP hD hS => ?_)
                have hP : va_P D vwCl (va_pl L (va_up (va_up f la (.inl (k 0, 24, .inl (upd ((shU T z n z)) ((z).toNat) (zI (y)))))) tx (.inr (7, [.ref la, .ref ma, .int (zI (n + 1))])))) H := hP
                have hD : va_D A (va_pl L (va_up (va_up f la (.inl (k 0, 24, .inl (upd ((shU T z n z)) ((z).toNat) (zI (y)))))) tx (.inr (7, [.ref la, .ref ma, .int (zI (n + 1))])))) := hD
                refine zr_const hx hb dX8_put_105 ?_
                refine lv_istore_n (lv' := [(3, .int (zI (0))), (0, .ref tx), (1, .int (zI (z))), (2, .int (zI (y)))]) hx hb dX8_put_106 rfl hl (by decide) rfl (fun ls hl => ?_)
                refine lv_iload_n hx hb dX8_put_107 rfl (lv_at hl 0 rfl) ?_
                refine lv_aload_n hx hb dX8_put_108 rfl (lv_at hl 1 rfl) ?_
                refine pl_get (ci := 7) (v := .ref ma) (C := RX8) (T := TX8) (N := 3) hx hb hts hi_X8 hown hK hP htx (va_up_self _ _ _) rfl 1 (by decide) hw_4 (fun _ h9 => h9) rfl dX8_put_109 ?_
                refine pl_alen (ty := .object RX6) hx hb hK hP hma 3 ((va_up_ne _ _ (ne_k hfma hftx (by simp))).trans ((va_up_ne _ _ (ne_k hfma hfla (by simp))).trans hfma)) rfl (4) rfl dX8_put_112 ?_
                refine zr_icmp_ge (tgt := 131) hx hb dX8_put_113 (by decide) (by omega) (by omega) (fun c7 => ?_) (fun c7 => ?_)
                · exact absurd c7 (by omega)
                · refine lv_aload_n hx hb dX8_put_116 rfl (lv_at hl 1 rfl) ?_
                  refine lv_iload_n hx hb dX8_put_117 rfl (lv_at hl 0 rfl) ?_
                  refine va_csr (va_Run.run (va_runV (As := [.int (zI (0))]) (rest := []) ⟨hx, hb, hml, hown, hts⟩ (kX8_marksOf l D k L (va_up (va_up f la (.inl (k 0, 24, .inl (upd ((shU T z n z)) ((z).toNat) (zI (y)))))) tx (.inr (7, [.ref la, .ref ma, .int (zI (n + 1))]))) tx la ma (n + 1) ((upd ((shU T z n z)) ((z).toNat) (zI (y)))) htx (va_up_self _ _ _) hla ((va_up_ne _ _ (ne_k hfla hftx (by simp))).trans (va_up_self _ _ _)) (by omega) ms mr M (fun j9 => if j9 = 0 then (R 0) else if j9 = 1 then (R 1) else if j9 = 2 then (R 2) else (R 3)) hma ((va_up_ne _ _ (ne_k hfma hftx (by simp))).trans ((va_up_ne _ _ (ne_k hfma hfla (by simp))).trans hfma)) hM (fun j9 h9 => by rcases (show j9 = 0 ∨ j9 = 1 ∨ j9 = 2 ∨ j9 = 3 by omega) with rfl | rfl | rfl | rfl; exact (hms 0 (by decide)); exact (hms 1 (by decide)); exact (hms 2 (by decide)); exact (hms 3 (by decide))) (fun j9 h9 => by rcases (show j9 = 0 ∨ j9 = 1 ∨ j9 = 2 ∨ j9 = 3 by omega) with rfl | rfl | rfl | rfl; exact ((va_up_ne _ _ (ne_k (hfms 0 (by decide)) hftx (by simp))).trans ((va_up_ne _ _ (ne_k (hfms 0 (by decide)) hfla (by simp))).trans (hfms 0 (by decide)))); exact ((va_up_ne _ _ (ne_k (hfms 1 (by decide)) hftx (by simp))).trans ((va_up_ne _ _ (ne_k (hfms 1 (by decide)) hfla (by simp))).trans (hfms 1 (by decide)))); exact ((va_up_ne _ _ (ne_k (hfms 2 (by decide)) hftx (by simp))).trans ((va_up_ne _ _ (ne_k (hfms 2 (by decide)) hfla (by simp))).trans (hfms 2 (by decide)))); exact ((va_up_ne _ _ (ne_k (hfms 3 (by decide)) hftx (by simp))).trans ((va_up_ne _ _ (ne_k (hfms 3 (by decide)) hfla (by simp))).trans (hfms 3 (by decide))))) (fun j9 h9 => by rcases (show j9 = 0 ∨ j9 = 1 ∨ j9 = 2 ∨ j9 = 3 by omega) with rfl | rfl | rfl | rfl; exact (hmr 0 (by decide)); exact (hmr 1 (by decide)); exact (hmr 2 (by decide)); exact (hmr 3 (by decide))) (fun j9 h9 => by rcases (show j9 = 0 ∨ j9 = 1 ∨ j9 = 2 ∨ j9 = 3 by omega) with rfl | rfl | rfl | rfl; exact ((va_up_ne _ _ (ne_k (hfmr 0 (by decide)) hftx (by simp))).trans ((va_up_ne _ _ (Ne.symm (hlm 0 (by decide)))).trans (hfmr 0 (by decide)))); exact ((va_up_ne _ _ (ne_k (hfmr 1 (by decide)) hftx (by simp))).trans ((va_up_ne _ _ (Ne.symm (hlm 1 (by decide)))).trans (hfmr 1 (by decide)))); exact ((va_up_ne _ _ (ne_k (hfmr 2 (by decide)) hftx (by simp))).trans ((va_up_ne _ _ (Ne.symm (hlm 2 (by decide)))).trans (hfmr 2 (by decide)))); exact ((va_up_ne _ _ (ne_k (hfmr 3 (by decide)) hftx (by simp))).trans ((va_up_ne _ _ (Ne.symm (hlm 3 (by decide)))).trans (hfmr 3 (by decide))))) hinj hlm (0) (by omega)) (cwV 1 hts gX8_put_X8_marksOf rfl rfl rfl (by decide +kernel) ⟨Nat.le_of_ble_eq_true rfl, Nat.le_of_ble_eq_true rfl⟩) (rc_preV hC hP (pl_recv hK hP htx (va_up_self _ _ _) (ci := 7) (q := (RX8, TX8, 3)) rfl)) rfl rfl hl.1 rfl (lv_room (Nat.le_of_ble_eq_true rfl)) dX8_put_118 ⟨Nat.zero_le _, Nat.zero_le _⟩)) (fun r8 hr8 => ?_)
                  subst hr8
                  refine lv_iload_n hx hb dX8_put_121 rfl (lv_at hl 2 rfl) ?_
                  refine pc_callv (va_runV (As := [.int (zI (z))]) (rest := []) ⟨hx, hb, hml, hown, hts⟩ (kX6_openAt l D k L (va_up (va_up f la (.inl (k 0, 24, .inl (upd ((shU T z n z)) ((z).toNat) (zI (y)))))) tx (.inr (7, [.ref la, .ref ma, .int (zI (n + 1))]))) (ms 0) (mr 0) ((R 0)) (hms 0 (by decide)) ((va_up_ne _ _ (ne_k (hfms 0 (by decide)) hftx (by simp))).trans ((va_up_ne _ _ (ne_k (hfms 0 (by decide)) hfla (by simp))).trans (hfms 0 (by decide)))) (hmr 0 (by decide)) ((va_up_ne _ _ (ne_k (hfmr 0 (by decide)) hftx (by simp))).trans ((va_up_ne _ _ (Ne.symm (hlm 0 (by decide)))).trans (hfmr 0 (by decide)))) (z) (by omega) n0 _) (cwV 1 hts gX8_put_X6_openAt rfl rfl rfl (by decide +kernel) ⟨Nat.le_of_ble_eq_true rfl, Nat.le_of_ble_eq_true rfl⟩) (pc_preV hC hP (Nat.le_trans hn9 hS.1) hD hAn (pl_recv hK hP (hms 0 (by decide)) ((va_up_ne _ _ (ne_k (hfms 0 (by decide)) hftx (by simp))).trans ((va_up_ne _ _ (ne_k (hfms 0 (by decide)) hfla (by simp))).trans (hfms 0 (by decide)))) (ci := 5) (q := (RX6, TX6, 1)) rfl)) rfl rfl hl.1 rfl (lv_room (Nat.le_of_ble_eq_true rfl)) dX8_put_122 ⟨Nat.zero_le _, Nat.zero_le _⟩) hD hS hA (fun ur9 H locs hr9 hP hD hS hzr9 => ?_)
                  obtain ⟨Gr9, hGr9, rfl⟩ := hr9
                  have hP : va_P D vwCl (va_pl L (va_up (va_up (va_up f la (.inl (k 0, 24, .inl (upd ((shU T z n z)) ((z).toNat) (zI (y)))))) tx (.inr (7, [.ref la, .ref ma, .int (zI (n + 1))]))) (mr 0) (.inl (k 0, 24, .inl Gr9)))) H := hP
                  have hD : va_D A (va_pl L (va_up (va_up (va_up f la (.inl (k 0, 24, .inl (upd ((shU T z n z)) ((z).toNat) (zI (y)))))) tx (.inr (7, [.ref la, .ref ma, .int (zI (n + 1))]))) (mr 0) (.inl (k 0, 24, .inl Gr9)))) := hD
                  refine zr_iinc (k := 0) (lv' := [(3, .int (zI (0 + 1))), (0, .ref tx), (1, .int (zI (z))), (2, .int (zI (y)))]) hx hb dX8_put_125 hl rfl (by decide) rfl (fun ls hl => ?_)
                  refine lv_goto (tgt := 107) hx hb dX8_put_128 (by decide) ?_
                  refine lv_iload_n hx hb dX8_put_107 rfl (lv_at hl 0 rfl) ?_
                  refine lv_aload_n hx hb dX8_put_108 rfl (lv_at hl 1 rfl) ?_
                  refine pl_get (ci := 7) (v := .ref ma) (C := RX8) (T := TX8) (N := 3) hx hb hts hi_X8 hown hK hP htx ((va_up_ne _ _ (ne_k hftx (hfmr 0 (by decide)) (by simp))).trans (va_up_self _ _ _)) rfl 1 (by decide) hw_4 (fun _ h9 => h9) rfl dX8_put_109 ?_
                  refine pl_alen (ty := .object RX6) hx hb hK hP hma 3 ((va_up_ne _ _ (ne_k hfma (hfmr 0 (by decide)) (by simp))).trans ((va_up_ne _ _ (ne_k hfma hftx (by simp))).trans ((va_up_ne _ _ (ne_k hfma hfla (by simp))).trans hfma))) rfl (4) rfl dX8_put_112 ?_
                  refine zr_icmp_ge (tgt := 131) hx hb dX8_put_113 (by decide) (by omega) (by omega) (fun c10 => ?_) (fun c10 => ?_)
                  · exact absurd c10 (by omega)
                  · refine lv_aload_n hx hb dX8_put_116 rfl (lv_at hl 1 rfl) ?_
                    refine lv_iload_n hx hb dX8_put_117 rfl (lv_at hl 0 rfl) ?_
                    refine va_csr (va_Run.run (va_runV (As := [.int (zI (0 + 1))]) (rest := []) ⟨hx, hb, hml, hown, hts⟩ (kX8_marksOf l D k L (va_up (va_up (va_up f la (.inl (k 0, 24, .inl (upd ((shU T z n z)) ((z).toNat) (zI (y)))))) tx (.inr (7, [.ref la, .ref ma, .int (zI (n + 1))]))) (mr 0) (.inl (k 0, 24, .inl Gr9))) tx la ma (n + 1) ((upd ((shU T z n z)) ((z).toNat) (zI (y)))) htx ((va_up_ne _ _ (ne_k hftx (hfmr 0 (by decide)) (by simp))).trans (va_up_self _ _ _)) hla ((va_up_ne _ _ (hlm 0 (by decide))).trans ((va_up_ne _ _ (ne_k hfla hftx (by simp))).trans (va_up_self _ _ _))) (by omega) ms mr M (fun j9 => if j9 = 0 then Gr9 else if j9 = 1 then (R 1) else if j9 = 2 then (R 2) else (R 3)) hma ((va_up_ne _ _ (ne_k hfma (hfmr 0 (by decide)) (by simp))).trans ((va_up_ne _ _ (ne_k hfma hftx (by simp))).trans ((va_up_ne _ _ (ne_k hfma hfla (by simp))).trans hfma))) hM (fun j9 h9 => by rcases (show j9 = 0 ∨ j9 = 1 ∨ j9 = 2 ∨ j9 = 3 by omega) with rfl | rfl | rfl | rfl; exact (hms 0 (by decide)); exact (hms 1 (by decide)); exact (hms 2 (by decide)); exact (hms 3 (by decide))) (fun j9 h9 => by rcases (show j9 = 0 ∨ j9 = 1 ∨ j9 = 2 ∨ j9 = 3 by omega) with rfl | rfl | rfl | rfl; exact ((va_up_ne _ _ (ne_k (hfms 0 (by decide)) (hfmr 0 (by decide)) (by simp))).trans ((va_up_ne _ _ (ne_k (hfms 0 (by decide)) hftx (by simp))).trans ((va_up_ne _ _ (ne_k (hfms 0 (by decide)) hfla (by simp))).trans (hfms 0 (by decide))))); exact ((va_up_ne _ _ (ne_k (hfms 1 (by decide)) (hfmr 0 (by decide)) (by simp))).trans ((va_up_ne _ _ (ne_k (hfms 1 (by decide)) hftx (by simp))).trans ((va_up_ne _ _ (ne_k (hfms 1 (by decide)) hfla (by simp))).trans (hfms 1 (by decide))))); exact ((va_up_ne _ _ (ne_k (hfms 2 (by decide)) (hfmr 0 (by decide)) (by simp))).trans ((va_up_ne _ _ (ne_k (hfms 2 (by decide)) hftx (by simp))).trans ((va_up_ne _ _ (ne_k (hfms 2 (by decide)) hfla (by simp))).trans (hfms 2 (by decide))))); exact ((va_up_ne _ _ (ne_k (hfms 3 (by decide)) (hfmr 0 (by decide)) (by simp))).trans ((va_up_ne _ _ (ne_k (hfms 3 (by decide)) hftx (by simp))).trans ((va_up_ne _ _ (ne_k (hfms 3 (by decide)) hfla (by simp))).trans (hfms 3 (by decide)))))) (fun j9 h9 => by rcases (show j9 = 0 ∨ j9 = 1 ∨ j9 = 2 ∨ j9 = 3 by omega) with rfl | rfl | rfl | rfl; exact (hmr 0 (by decide)); exact (hmr 1 (by decide)); exact (hmr 2 (by decide)); exact (hmr 3 (by decide))) (fun j9 h9 => by rcases (show j9 = 0 ∨ j9 = 1 ∨ j9 = 2 ∨ j9 = 3 by omega) with rfl | rfl | rfl | rfl; exact (va_up_self _ _ _); exact ((va_up_ne _ _ (fun e9 => absurd (hinj 1 0 (by decide) (by decide) e9) (by decide))).trans ((va_up_ne _ _ (ne_k (hfmr 1 (by decide)) hftx (by simp))).trans ((va_up_ne _ _ (Ne.symm (hlm 1 (by decide)))).trans (hfmr 1 (by decide))))); exact ((va_up_ne _ _ (fun e9 => absurd (hinj 2 0 (by decide) (by decide) e9) (by decide))).trans ((va_up_ne _ _ (ne_k (hfmr 2 (by decide)) hftx (by simp))).trans ((va_up_ne _ _ (Ne.symm (hlm 2 (by decide)))).trans (hfmr 2 (by decide))))); exact ((va_up_ne _ _ (fun e9 => absurd (hinj 3 0 (by decide) (by decide) e9) (by decide))).trans ((va_up_ne _ _ (ne_k (hfmr 3 (by decide)) hftx (by simp))).trans ((va_up_ne _ _ (Ne.symm (hlm 3 (by decide)))).trans (hfmr 3 (by decide)))))) hinj hlm (0 + 1) (by omega)) (cwV 1 hts gX8_put_X8_marksOf rfl rfl rfl (by decide +kernel) ⟨Nat.le_of_ble_eq_true rfl, Nat.le_of_ble_eq_true rfl⟩) (rc_preV hC hP (pl_recv hK hP htx ((va_up_ne _ _ (ne_k hftx (hfmr 0 (by decide)) (by simp))).trans (va_up_self _ _ _)) (ci := 7) (q := (RX8, TX8, 3)) rfl)) rfl rfl hl.1 rfl (lv_room (Nat.le_of_ble_eq_true rfl)) dX8_put_118 ⟨Nat.zero_le _, Nat.zero_le _⟩)) (fun r11 hr11 => ?_)
                    subst hr11
                    refine lv_iload_n hx hb dX8_put_121 rfl (lv_at hl 2 rfl) ?_
                    refine pc_callv (va_runV (As := [.int (zI (z))]) (rest := []) ⟨hx, hb, hml, hown, hts⟩ (kX6_openAt l D k L (va_up (va_up (va_up f la (.inl (k 0, 24, .inl (upd ((shU T z n z)) ((z).toNat) (zI (y)))))) tx (.inr (7, [.ref la, .ref ma, .int (zI (n + 1))]))) (mr 0) (.inl (k 0, 24, .inl Gr9))) (ms 1) (mr 1) ((R 1)) (hms 1 (by decide)) ((va_up_ne _ _ (ne_k (hfms 1 (by decide)) (hfmr 0 (by decide)) (by simp))).trans ((va_up_ne _ _ (ne_k (hfms 1 (by decide)) hftx (by simp))).trans ((va_up_ne _ _ (ne_k (hfms 1 (by decide)) hfla (by simp))).trans (hfms 1 (by decide))))) (hmr 1 (by decide)) ((va_up_ne _ _ (fun e9 => absurd (hinj 1 0 (by decide) (by decide) e9) (by decide))).trans ((va_up_ne _ _ (ne_k (hfmr 1 (by decide)) hftx (by simp))).trans ((va_up_ne _ _ (Ne.symm (hlm 1 (by decide)))).trans (hfmr 1 (by decide))))) (z) (by omega) n0 _) (cwV 1 hts gX8_put_X6_openAt rfl rfl rfl (by decide +kernel) ⟨Nat.le_of_ble_eq_true rfl, Nat.le_of_ble_eq_true rfl⟩) (pc_preV hC hP (Nat.le_trans hn9 hS.1) hD hAn (pl_recv hK hP (hms 1 (by decide)) ((va_up_ne _ _ (ne_k (hfms 1 (by decide)) (hfmr 0 (by decide)) (by simp))).trans ((va_up_ne _ _ (ne_k (hfms 1 (by decide)) hftx (by simp))).trans ((va_up_ne _ _ (ne_k (hfms 1 (by decide)) hfla (by simp))).trans (hfms 1 (by decide))))) (ci := 5) (q := (RX6, TX6, 1)) rfl)) rfl rfl hl.1 rfl (lv_room (Nat.le_of_ble_eq_true rfl)) dX8_put_122 ⟨Nat.zero_le _, Nat.zero_le _⟩) hD hS hA (fun ur12 H locs hr12 hP hD hS hzr12 => ?_)
                    obtain ⟨Gr12, hGr12, rfl⟩ := hr12
                    have hP : va_P D vwCl (va_pl L (va_up (va_up (va_up (va_up f la (.inl (k 0, 24, .inl (upd ((shU T z n z)) ((z).toNat) (zI (y)))))) tx (.inr (7, [.ref la, .ref ma, .int (zI (n + 1))]))) (mr 0) (.inl (k 0, 24, .inl Gr9))) (mr 1) (.inl (k 0, 24, .inl Gr12)))) H := hP
                    have hD : va_D A (va_pl L (va_up (va_up (va_up (va_up f la (.inl (k 0, 24, .inl (upd ((shU T z n z)) ((z).toNat) (zI (y)))))) tx (.inr (7, [.ref la, .ref ma, .int (zI (n + 1))]))) (mr 0) (.inl (k 0, 24, .inl Gr9))) (mr 1) (.inl (k 0, 24, .inl Gr12)))) := hD
                    refine zr_iinc (k := 0) (lv' := [(3, .int (zI ((0 + 1) + 1))), (0, .ref tx), (1, .int (zI (z))), (2, .int (zI (y)))]) hx hb dX8_put_125 hl rfl (by decide) rfl (fun ls hl => ?_)
                    refine lv_goto (tgt := 107) hx hb dX8_put_128 (by decide) ?_
                    refine lv_iload_n hx hb dX8_put_107 rfl (lv_at hl 0 rfl) ?_
                    refine lv_aload_n hx hb dX8_put_108 rfl (lv_at hl 1 rfl) ?_
                    refine pl_get (ci := 7) (v := .ref ma) (C := RX8) (T := TX8) (N := 3) hx hb hts hi_X8 hown hK hP htx ((va_up_ne _ _ (ne_k hftx (hfmr 1 (by decide)) (by simp))).trans ((va_up_ne _ _ (ne_k hftx (hfmr 0 (by decide)) (by simp))).trans (va_up_self _ _ _))) rfl 1 (by decide) hw_4 (fun _ h9 => h9) rfl dX8_put_109 ?_
                    refine pl_alen (ty := .object RX6) hx hb hK hP hma 3 ((va_up_ne _ _ (ne_k hfma (hfmr 1 (by decide)) (by simp))).trans ((va_up_ne _ _ (ne_k hfma (hfmr 0 (by decide)) (by simp))).trans ((va_up_ne _ _ (ne_k hfma hftx (by simp))).trans ((va_up_ne _ _ (ne_k hfma hfla (by simp))).trans hfma)))) rfl (4) rfl dX8_put_112 ?_
                    refine zr_icmp_ge (tgt := 131) hx hb dX8_put_113 (by decide) (by omega) (by omega) (fun c13 => ?_) (fun c13 => ?_)
                    · exact absurd c13 (by omega)
                    · refine lv_aload_n hx hb dX8_put_116 rfl (lv_at hl 1 rfl) ?_
                      refine lv_iload_n hx hb dX8_put_117 rfl (lv_at hl 0 rfl) ?_
                      refine va_csr (va_Run.run (va_runV (As := [.int (zI ((0 + 1) + 1))]) (rest := []) ⟨hx, hb, hml, hown, hts⟩ (kX8_marksOf l D k L (va_up (va_up (va_up (va_up f la (.inl (k 0, 24, .inl (upd ((shU T z n z)) ((z).toNat) (zI (y)))))) tx (.inr (7, [.ref la, .ref ma, .int (zI (n + 1))]))) (mr 0) (.inl (k 0, 24, .inl Gr9))) (mr 1) (.inl (k 0, 24, .inl Gr12))) tx la ma (n + 1) ((upd ((shU T z n z)) ((z).toNat) (zI (y)))) htx ((va_up_ne _ _ (ne_k hftx (hfmr 1 (by decide)) (by simp))).trans ((va_up_ne _ _ (ne_k hftx (hfmr 0 (by decide)) (by simp))).trans (va_up_self _ _ _))) hla ((va_up_ne _ _ (hlm 1 (by decide))).trans ((va_up_ne _ _ (hlm 0 (by decide))).trans ((va_up_ne _ _ (ne_k hfla hftx (by simp))).trans (va_up_self _ _ _)))) (by omega) ms mr M (fun j9 => if j9 = 0 then Gr9 else if j9 = 1 then Gr12 else if j9 = 2 then (R 2) else (R 3)) hma ((va_up_ne _ _ (ne_k hfma (hfmr 1 (by decide)) (by simp))).trans ((va_up_ne _ _ (ne_k hfma (hfmr 0 (by decide)) (by simp))).trans ((va_up_ne _ _ (ne_k hfma hftx (by simp))).trans ((va_up_ne _ _ (ne_k hfma hfla (by simp))).trans hfma)))) hM (fun j9 h9 => by rcases (show j9 = 0 ∨ j9 = 1 ∨ j9 = 2 ∨ j9 = 3 by omega) with rfl | rfl | rfl | rfl; exact (hms 0 (by decide)); exact (hms 1 (by decide)); exact (hms 2 (by decide)); exact (hms 3 (by decide))) (fun j9 h9 => by rcases (show j9 = 0 ∨ j9 = 1 ∨ j9 = 2 ∨ j9 = 3 by omega) with rfl | rfl | rfl | rfl; exact ((va_up_ne _ _ (ne_k (hfms 0 (by decide)) (hfmr 1 (by decide)) (by simp))).trans ((va_up_ne _ _ (ne_k (hfms 0 (by decide)) (hfmr 0 (by decide)) (by simp))).trans ((va_up_ne _ _ (ne_k (hfms 0 (by decide)) hftx (by simp))).trans ((va_up_ne _ _ (ne_k (hfms 0 (by decide)) hfla (by simp))).trans (hfms 0 (by decide)))))); exact ((va_up_ne _ _ (ne_k (hfms 1 (by decide)) (hfmr 1 (by decide)) (by simp))).trans ((va_up_ne _ _ (ne_k (hfms 1 (by decide)) (hfmr 0 (by decide)) (by simp))).trans ((va_up_ne _ _ (ne_k (hfms 1 (by decide)) hftx (by simp))).trans ((va_up_ne _ _ (ne_k (hfms 1 (by decide)) hfla (by simp))).trans (hfms 1 (by decide)))))); exact ((va_up_ne _ _ (ne_k (hfms 2 (by decide)) (hfmr 1 (by decide)) (by simp))).trans ((va_up_ne _ _ (ne_k (hfms 2 (by decide)) (hfmr 0 (by decide)) (by simp))).trans ((va_up_ne _ _ (ne_k (hfms 2 (by decide)) hftx (by simp))).trans ((va_up_ne _ _ (ne_k (hfms 2 (by decide)) hfla (by simp))).trans (hfms 2 (by decide)))))); exact ((va_up_ne _ _ (ne_k (hfms 3 (by decide)) (hfmr 1 (by decide)) (by simp))).trans ((va_up_ne _ _ (ne_k (hfms 3 (by decide)) (hfmr 0 (by decide)) (by simp))).trans ((va_up_ne _ _ (ne_k (hfms 3 (by decide)) hftx (by simp))).trans ((va_up_ne _ _ (ne_k (hfms 3 (by decide)) hfla (by simp))).trans (hfms 3 (by decide))))))) (fun j9 h9 => by rcases (show j9 = 0 ∨ j9 = 1 ∨ j9 = 2 ∨ j9 = 3 by omega) with rfl | rfl | rfl | rfl; exact (hmr 0 (by decide)); exact (hmr 1 (by decide)); exact (hmr 2 (by decide)); exact (hmr 3 (by decide))) (fun j9 h9 => by rcases (show j9 = 0 ∨ j9 = 1 ∨ j9 = 2 ∨ j9 = 3 by omega) with rfl | rfl | rfl | rfl; exact ((va_up_ne _ _ (fun e9 => absurd (hinj 0 1 (by decide) (by decide) e9) (by decide))).trans (va_up_self _ _ _)); exact (va_up_self _ _ _); exact ((va_up_ne _ _ (fun e9 => absurd (hinj 2 1 (by decide) (by decide) e9) (by decide))).trans ((va_up_ne _ _ (fun e9 => absurd (hinj 2 0 (by decide) (by decide) e9) (by decide))).trans ((va_up_ne _ _ (ne_k (hfmr 2 (by decide)) hftx (by simp))).trans ((va_up_ne _ _ (Ne.symm (hlm 2 (by decide)))).trans (hfmr 2 (by decide)))))); exact ((va_up_ne _ _ (fun e9 => absurd (hinj 3 1 (by decide) (by decide) e9) (by decide))).trans ((va_up_ne _ _ (fun e9 => absurd (hinj 3 0 (by decide) (by decide) e9) (by decide))).trans ((va_up_ne _ _ (ne_k (hfmr 3 (by decide)) hftx (by simp))).trans ((va_up_ne _ _ (Ne.symm (hlm 3 (by decide)))).trans (hfmr 3 (by decide))))))) hinj hlm ((0 + 1) + 1) (by omega)) (cwV 1 hts gX8_put_X8_marksOf rfl rfl rfl (by decide +kernel) ⟨Nat.le_of_ble_eq_true rfl, Nat.le_of_ble_eq_true rfl⟩) (rc_preV hC hP (pl_recv hK hP htx ((va_up_ne _ _ (ne_k hftx (hfmr 1 (by decide)) (by simp))).trans ((va_up_ne _ _ (ne_k hftx (hfmr 0 (by decide)) (by simp))).trans (va_up_self _ _ _))) (ci := 7) (q := (RX8, TX8, 3)) rfl)) rfl rfl hl.1 rfl (lv_room (Nat.le_of_ble_eq_true rfl)) dX8_put_118 ⟨Nat.zero_le _, Nat.zero_le _⟩)) (fun r14 hr14 => ?_)
                      subst hr14
                      refine lv_iload_n hx hb dX8_put_121 rfl (lv_at hl 2 rfl) ?_
                      refine pc_callv (va_runV (As := [.int (zI (z))]) (rest := []) ⟨hx, hb, hml, hown, hts⟩ (kX6_openAt l D k L (va_up (va_up (va_up (va_up f la (.inl (k 0, 24, .inl (upd ((shU T z n z)) ((z).toNat) (zI (y)))))) tx (.inr (7, [.ref la, .ref ma, .int (zI (n + 1))]))) (mr 0) (.inl (k 0, 24, .inl Gr9))) (mr 1) (.inl (k 0, 24, .inl Gr12))) (ms 2) (mr 2) ((R 2)) (hms 2 (by decide)) ((va_up_ne _ _ (ne_k (hfms 2 (by decide)) (hfmr 1 (by decide)) (by simp))).trans ((va_up_ne _ _ (ne_k (hfms 2 (by decide)) (hfmr 0 (by decide)) (by simp))).trans ((va_up_ne _ _ (ne_k (hfms 2 (by decide)) hftx (by simp))).trans ((va_up_ne _ _ (ne_k (hfms 2 (by decide)) hfla (by simp))).trans (hfms 2 (by decide)))))) (hmr 2 (by decide)) ((va_up_ne _ _ (fun e9 => absurd (hinj 2 1 (by decide) (by decide) e9) (by decide))).trans ((va_up_ne _ _ (fun e9 => absurd (hinj 2 0 (by decide) (by decide) e9) (by decide))).trans ((va_up_ne _ _ (ne_k (hfmr 2 (by decide)) hftx (by simp))).trans ((va_up_ne _ _ (Ne.symm (hlm 2 (by decide)))).trans (hfmr 2 (by decide)))))) (z) (by omega) n0 _) (cwV 1 hts gX8_put_X6_openAt rfl rfl rfl (by decide +kernel) ⟨Nat.le_of_ble_eq_true rfl, Nat.le_of_ble_eq_true rfl⟩) (pc_preV hC hP (Nat.le_trans hn9 hS.1) hD hAn (pl_recv hK hP (hms 2 (by decide)) ((va_up_ne _ _ (ne_k (hfms 2 (by decide)) (hfmr 1 (by decide)) (by simp))).trans ((va_up_ne _ _ (ne_k (hfms 2 (by decide)) (hfmr 0 (by decide)) (by simp))).trans ((va_up_ne _ _ (ne_k (hfms 2 (by decide)) hftx (by simp))).trans ((va_up_ne _ _ (ne_k (hfms 2 (by decide)) hfla (by simp))).trans (hfms 2 (by decide)))))) (ci := 5) (q := (RX6, TX6, 1)) rfl)) rfl rfl hl.1 rfl (lv_room (Nat.le_of_ble_eq_true rfl)) dX8_put_122 ⟨Nat.zero_le _, Nat.zero_le _⟩) hD hS hA (fun ur15 H locs hr15 hP hD hS hzr15 => ?_)
                      obtain ⟨Gr15, hGr15, rfl⟩ := hr15
                      have hP : va_P D vwCl (va_pl L (va_up (va_up (va_up (va_up (va_up f la (.inl (k 0, 24, .inl (upd ((shU T z n z)) ((z).toNat) (zI (y)))))) tx (.inr (7, [.ref la, .ref ma, .int (zI (n + 1))]))) (mr 0) (.inl (k 0, 24, .inl Gr9))) (mr 1) (.inl (k 0, 24, .inl Gr12))) (mr 2) (.inl (k 0, 24, .inl Gr15)))) H := hP
                      have hD : va_D A (va_pl L (va_up (va_up (va_up (va_up (va_up f la (.inl (k 0, 24, .inl (upd ((shU T z n z)) ((z).toNat) (zI (y)))))) tx (.inr (7, [.ref la, .ref ma, .int (zI (n + 1))]))) (mr 0) (.inl (k 0, 24, .inl Gr9))) (mr 1) (.inl (k 0, 24, .inl Gr12))) (mr 2) (.inl (k 0, 24, .inl Gr15)))) := hD
                      refine zr_iinc (k := 0) (lv' := [(3, .int (zI (((0 + 1) + 1) + 1))), (0, .ref tx), (1, .int (zI (z))), (2, .int (zI (y)))]) hx hb dX8_put_125 hl rfl (by decide) rfl (fun ls hl => ?_)
                      refine lv_goto (tgt := 107) hx hb dX8_put_128 (by decide) ?_
                      refine lv_iload_n hx hb dX8_put_107 rfl (lv_at hl 0 rfl) ?_
                      refine lv_aload_n hx hb dX8_put_108 rfl (lv_at hl 1 rfl) ?_
                      refine pl_get (ci := 7) (v := .ref ma) (C := RX8) (T := TX8) (N := 3) hx hb hts hi_X8 hown hK hP htx ((va_up_ne _ _ (ne_k hftx (hfmr 2 (by decide)) (by simp))).trans ((va_up_ne _ _ (ne_k hftx (hfmr 1 (by decide)) (by simp))).trans ((va_up_ne _ _ (ne_k hftx (hfmr 0 (by decide)) (by simp))).trans (va_up_self _ _ _)))) rfl 1 (by decide) hw_4 (fun _ h9 => h9) rfl dX8_put_109 ?_
                      refine pl_alen (ty := .object RX6) hx hb hK hP hma 3 ((va_up_ne _ _ (ne_k hfma (hfmr 2 (by decide)) (by simp))).trans ((va_up_ne _ _ (ne_k hfma (hfmr 1 (by decide)) (by simp))).trans ((va_up_ne _ _ (ne_k hfma (hfmr 0 (by decide)) (by simp))).trans ((va_up_ne _ _ (ne_k hfma hftx (by simp))).trans ((va_up_ne _ _ (ne_k hfma hfla (by simp))).trans hfma))))) rfl (4) rfl dX8_put_112 ?_
                      refine zr_icmp_ge (tgt := 131) hx hb dX8_put_113 (by decide) (by omega) (by omega) (fun c16 => ?_) (fun c16 => ?_)
                      · exact absurd c16 (by omega)
                      · refine lv_aload_n hx hb dX8_put_116 rfl (lv_at hl 1 rfl) ?_
                        refine lv_iload_n hx hb dX8_put_117 rfl (lv_at hl 0 rfl) ?_
                        refine va_csr (va_Run.run (va_runV (As := [.int (zI (((0 + 1) + 1) + 1))]) (rest := []) ⟨hx, hb, hml, hown, hts⟩ (kX8_marksOf l D k L (va_up (va_up (va_up (va_up (va_up f la (.inl (k 0, 24, .inl (upd ((shU T z n z)) ((z).toNat) (zI (y)))))) tx (.inr (7, [.ref la, .ref ma, .int (zI (n + 1))]))) (mr 0) (.inl (k 0, 24, .inl Gr9))) (mr 1) (.inl (k 0, 24, .inl Gr12))) (mr 2) (.inl (k 0, 24, .inl Gr15))) tx la ma (n + 1) ((upd ((shU T z n z)) ((z).toNat) (zI (y)))) htx ((va_up_ne _ _ (ne_k hftx (hfmr 2 (by decide)) (by simp))).trans ((va_up_ne _ _ (ne_k hftx (hfmr 1 (by decide)) (by simp))).trans ((va_up_ne _ _ (ne_k hftx (hfmr 0 (by decide)) (by simp))).trans (va_up_self _ _ _)))) hla ((va_up_ne _ _ (hlm 2 (by decide))).trans ((va_up_ne _ _ (hlm 1 (by decide))).trans ((va_up_ne _ _ (hlm 0 (by decide))).trans ((va_up_ne _ _ (ne_k hfla hftx (by simp))).trans (va_up_self _ _ _))))) (by omega) ms mr M (fun j9 => if j9 = 0 then Gr9 else if j9 = 1 then Gr12 else if j9 = 2 then Gr15 else (R 3)) hma ((va_up_ne _ _ (ne_k hfma (hfmr 2 (by decide)) (by simp))).trans ((va_up_ne _ _ (ne_k hfma (hfmr 1 (by decide)) (by simp))).trans ((va_up_ne _ _ (ne_k hfma (hfmr 0 (by decide)) (by simp))).trans ((va_up_ne _ _ (ne_k hfma hftx (by simp))).trans ((va_up_ne _ _ (ne_k hfma hfla (by simp))).trans hfma))))) hM (fun j9 h9 => by rcases (show j9 = 0 ∨ j9 = 1 ∨ j9 = 2 ∨ j9 = 3 by omega) with rfl | rfl | rfl | rfl; exact (hms 0 (by decide)); exact (hms 1 (by decide)); exact (hms 2 (by decide)); exact (hms 3 (by decide))) (fun j9 h9 => by rcases (show j9 = 0 ∨ j9 = 1 ∨ j9 = 2 ∨ j9 = 3 by omega) with rfl | rfl | rfl | rfl; exact ((va_up_ne _ _ (ne_k (hfms 0 (by decide)) (hfmr 2 (by decide)) (by simp))).trans ((va_up_ne _ _ (ne_k (hfms 0 (by decide)) (hfmr 1 (by decide)) (by simp))).trans ((va_up_ne _ _ (ne_k (hfms 0 (by decide)) (hfmr 0 (by decide)) (by simp))).trans ((va_up_ne _ _ (ne_k (hfms 0 (by decide)) hftx (by simp))).trans ((va_up_ne _ _ (ne_k (hfms 0 (by decide)) hfla (by simp))).trans (hfms 0 (by decide))))))); exact ((va_up_ne _ _ (ne_k (hfms 1 (by decide)) (hfmr 2 (by decide)) (by simp))).trans ((va_up_ne _ _ (ne_k (hfms 1 (by decide)) (hfmr 1 (by decide)) (by simp))).trans ((va_up_ne _ _ (ne_k (hfms 1 (by decide)) (hfmr 0 (by decide)) (by simp))).trans ((va_up_ne _ _ (ne_k (hfms 1 (by decide)) hftx (by simp))).trans ((va_up_ne _ _ (ne_k (hfms 1 (by decide)) hfla (by simp))).trans (hfms 1 (by decide))))))); exact ((va_up_ne _ _ (ne_k (hfms 2 (by decide)) (hfmr 2 (by decide)) (by simp))).trans ((va_up_ne _ _ (ne_k (hfms 2 (by decide)) (hfmr 1 (by decide)) (by simp))).trans ((va_up_ne _ _ (ne_k (hfms 2 (by decide)) (hfmr 0 (by decide)) (by simp))).trans ((va_up_ne _ _ (ne_k (hfms 2 (by decide)) hftx (by simp))).trans ((va_up_ne _ _ (ne_k (hfms 2 (by decide)) hfla (by simp))).trans (hfms 2 (by decide))))))); exact ((va_up_ne _ _ (ne_k (hfms 3 (by decide)) (hfmr 2 (by decide)) (by simp))).trans ((va_up_ne _ _ (ne_k (hfms 3 (by decide)) (hfmr 1 (by decide)) (by simp))).trans ((va_up_ne _ _ (ne_k (hfms 3 (by decide)) (hfmr 0 (by decide)) (by simp))).trans ((va_up_ne _ _ (ne_k (hfms 3 (by decide)) hftx (by simp))).trans ((va_up_ne _ _ (ne_k (hfms 3 (by decide)) hfla (by simp))).trans (hfms 3 (by decide)))))))) (fun j9 h9 => by rcases (show j9 = 0 ∨ j9 = 1 ∨ j9 = 2 ∨ j9 = 3 by omega) with rfl | rfl | rfl | rfl; exact (hmr 0 (by decide)); exact (hmr 1 (by decide)); exact (hmr 2 (by decide)); exact (hmr 3 (by decide))) (fun j9 h9 => by rcases (show j9 = 0 ∨ j9 = 1 ∨ j9 = 2 ∨ j9 = 3 by omega) with rfl | rfl | rfl | rfl; exact ((va_up_ne _ _ (fun e9 => absurd (hinj 0 2 (by decide) (by decide) e9) (by decide))).trans ((va_up_ne _ _ (fun e9 => absurd (hinj 0 1 (by decide) (by decide) e9) (by decide))).trans (va_up_self _ _ _))); exact ((va_up_ne _ _ (fun e9 => absurd (hinj 1 2 (by decide) (by decide) e9) (by decide))).trans (va_up_self _ _ _)); exact (va_up_self _ _ _); exact ((va_up_ne _ _ (fun e9 => absurd (hinj 3 2 (by decide) (by decide) e9) (by decide))).trans ((va_up_ne _ _ (fun e9 => absurd (hinj 3 1 (by decide) (by decide) e9) (by decide))).trans ((va_up_ne _ _ (fun e9 => absurd (hinj 3 0 (by decide) (by decide) e9) (by decide))).trans ((va_up_ne _ _ (ne_k (hfmr 3 (by decide)) hftx (by simp))).trans ((va_up_ne _ _ (Ne.symm (hlm 3 (by decide)))).trans (hfmr 3 (by decide)))))))) hinj hlm (((0 + 1) + 1) + 1) (by omega)) (cwV 1 hts gX8_put_X8_marksOf rfl rfl rfl (by decide +kernel) ⟨Nat.le_of_ble_eq_true rfl, Nat.le_of_ble_eq_true rfl⟩) (rc_preV hC hP (pl_recv hK hP htx ((va_up_ne _ _ (ne_k hftx (hfmr 2 (by decide)) (by simp))).trans ((va_up_ne _ _ (ne_k hftx (hfmr 1 (by decide)) (by simp))).trans ((va_up_ne _ _ (ne_k hftx (hfmr 0 (by decide)) (by simp))).trans (va_up_self _ _ _)))) (ci := 7) (q := (RX8, TX8, 3)) rfl)) rfl rfl hl.1 rfl (lv_room (Nat.le_of_ble_eq_true rfl)) dX8_put_118 ⟨Nat.zero_le _, Nat.zero_le _⟩)) (fun r17 hr17 => ?_)
                        subst hr17
                        refine lv_iload_n hx hb dX8_put_121 rfl (lv_at hl 2 rfl) ?_
                        refine pc_callv (va_runV (As := [.int (zI (z))]) (rest := []) ⟨hx, hb, hml, hown, hts⟩ (kX6_openAt l D k L (va_up (va_up (va_up (va_up (va_up f la (.inl (k 0, 24, .inl (upd ((shU T z n z)) ((z).toNat) (zI (y)))))) tx (.inr (7, [.ref la, .ref ma, .int (zI (n + 1))]))) (mr 0) (.inl (k 0, 24, .inl Gr9))) (mr 1) (.inl (k 0, 24, .inl Gr12))) (mr 2) (.inl (k 0, 24, .inl Gr15))) (ms 3) (mr 3) ((R 3)) (hms 3 (by decide)) ((va_up_ne _ _ (ne_k (hfms 3 (by decide)) (hfmr 2 (by decide)) (by simp))).trans ((va_up_ne _ _ (ne_k (hfms 3 (by decide)) (hfmr 1 (by decide)) (by simp))).trans ((va_up_ne _ _ (ne_k (hfms 3 (by decide)) (hfmr 0 (by decide)) (by simp))).trans ((va_up_ne _ _ (ne_k (hfms 3 (by decide)) hftx (by simp))).trans ((va_up_ne _ _ (ne_k (hfms 3 (by decide)) hfla (by simp))).trans (hfms 3 (by decide))))))) (hmr 3 (by decide)) ((va_up_ne _ _ (fun e9 => absurd (hinj 3 2 (by decide) (by decide) e9) (by decide))).trans ((va_up_ne _ _ (fun e9 => absurd (hinj 3 1 (by decide) (by decide) e9) (by decide))).trans ((va_up_ne _ _ (fun e9 => absurd (hinj 3 0 (by decide) (by decide) e9) (by decide))).trans ((va_up_ne _ _ (ne_k (hfmr 3 (by decide)) hftx (by simp))).trans ((va_up_ne _ _ (Ne.symm (hlm 3 (by decide)))).trans (hfmr 3 (by decide))))))) (z) (by omega) n0 _) (cwV 1 hts gX8_put_X6_openAt rfl rfl rfl (by decide +kernel) ⟨Nat.le_of_ble_eq_true rfl, Nat.le_of_ble_eq_true rfl⟩) (pc_preV hC hP (Nat.le_trans hn9 hS.1) hD hAn (pl_recv hK hP (hms 3 (by decide)) ((va_up_ne _ _ (ne_k (hfms 3 (by decide)) (hfmr 2 (by decide)) (by simp))).trans ((va_up_ne _ _ (ne_k (hfms 3 (by decide)) (hfmr 1 (by decide)) (by simp))).trans ((va_up_ne _ _ (ne_k (hfms 3 (by decide)) (hfmr 0 (by decide)) (by simp))).trans ((va_up_ne _ _ (ne_k (hfms 3 (by decide)) hftx (by simp))).trans ((va_up_ne _ _ (ne_k (hfms 3 (by decide)) hfla (by simp))).trans (hfms 3 (by decide))))))) (ci := 5) (q := (RX6, TX6, 1)) rfl)) rfl rfl hl.1 rfl (lv_room (Nat.le_of_ble_eq_true rfl)) dX8_put_122 ⟨Nat.zero_le _, Nat.zero_le _⟩) hD hS hA (fun ur18 H locs hr18 hP hD hS hzr18 => ?_)
                        obtain ⟨Gr18, hGr18, rfl⟩ := hr18
                        have hP : va_P D vwCl (va_pl L (va_up (va_up (va_up (va_up (va_up (va_up f la (.inl (k 0, 24, .inl (upd ((shU T z n z)) ((z).toNat) (zI (y)))))) tx (.inr (7, [.ref la, .ref ma, .int (zI (n + 1))]))) (mr 0) (.inl (k 0, 24, .inl Gr9))) (mr 1) (.inl (k 0, 24, .inl Gr12))) (mr 2) (.inl (k 0, 24, .inl Gr15))) (mr 3) (.inl (k 0, 24, .inl Gr18)))) H := hP
                        have hD : va_D A (va_pl L (va_up (va_up (va_up (va_up (va_up (va_up f la (.inl (k 0, 24, .inl (upd ((shU T z n z)) ((z).toNat) (zI (y)))))) tx (.inr (7, [.ref la, .ref ma, .int (zI (n + 1))]))) (mr 0) (.inl (k 0, 24, .inl Gr9))) (mr 1) (.inl (k 0, 24, .inl Gr12))) (mr 2) (.inl (k 0, 24, .inl Gr15))) (mr 3) (.inl (k 0, 24, .inl Gr18)))) := hD
                        refine zr_iinc (k := 0) (lv' := [(3, .int (zI ((((0 + 1) + 1) + 1) + 1))), (0, .ref tx), (1, .int (zI (z))), (2, .int (zI (y)))]) hx hb dX8_put_125 hl rfl (by decide) rfl (fun ls hl => ?_)
                        refine lv_goto (tgt := 107) hx hb dX8_put_128 (by decide) ?_
                        refine lv_iload_n hx hb dX8_put_107 rfl (lv_at hl 0 rfl) ?_
                        refine lv_aload_n hx hb dX8_put_108 rfl (lv_at hl 1 rfl) ?_
                        refine pl_get (ci := 7) (v := .ref ma) (C := RX8) (T := TX8) (N := 3) hx hb hts hi_X8 hown hK hP htx ((va_up_ne _ _ (ne_k hftx (hfmr 3 (by decide)) (by simp))).trans ((va_up_ne _ _ (ne_k hftx (hfmr 2 (by decide)) (by simp))).trans ((va_up_ne _ _ (ne_k hftx (hfmr 1 (by decide)) (by simp))).trans ((va_up_ne _ _ (ne_k hftx (hfmr 0 (by decide)) (by simp))).trans (va_up_self _ _ _))))) rfl 1 (by decide) hw_4 (fun _ h9 => h9) rfl dX8_put_109 ?_
                        refine pl_alen (ty := .object RX6) hx hb hK hP hma 3 ((va_up_ne _ _ (ne_k hfma (hfmr 3 (by decide)) (by simp))).trans ((va_up_ne _ _ (ne_k hfma (hfmr 2 (by decide)) (by simp))).trans ((va_up_ne _ _ (ne_k hfma (hfmr 1 (by decide)) (by simp))).trans ((va_up_ne _ _ (ne_k hfma (hfmr 0 (by decide)) (by simp))).trans ((va_up_ne _ _ (ne_k hfma hftx (by simp))).trans ((va_up_ne _ _ (ne_k hfma hfla (by simp))).trans hfma)))))) rfl (4) rfl dX8_put_112 ?_
                        refine zr_icmp_ge (tgt := 131) hx hb dX8_put_113 (by decide) (by omega) (by omega) (fun c19 => ?_) (fun c19 => ?_)
                        · refine lv_aload_n hx hb dX8_put_131 rfl (lv_at hl 1 rfl) ?_
                          refine pl_get (ci := 7) (v := .int (zI (n + 1))) (C := RX8) (T := TX8) (N := 3) hx hb hts hi_X8 hown hK hP htx ((va_up_ne _ _ (ne_k hftx (hfmr 3 (by decide)) (by simp))).trans ((va_up_ne _ _ (ne_k hftx (hfmr 2 (by decide)) (by simp))).trans ((va_up_ne _ _ (ne_k hftx (hfmr 1 (by decide)) (by simp))).trans ((va_up_ne _ _ (ne_k hftx (hfmr 0 (by decide)) (by simp))).trans (va_up_self _ _ _))))) rfl 2 (by decide) hw_0 (fun _ h9 => h9) rfl dX8_put_132 ?_
                          rw [hQ]
                          exact pc_iret hx hb hrt hP (by rw [← hAd]; exact hD) (by rw [← hAd]; exact hS) (⟨rfl, (fun i9 => if i9 = 0 then Gr9 else if i9 = 1 then Gr12 else if i9 = 2 then Gr15 else Gr18), (fun i9 hi9 => by rcases (show i9 = 0 ∨ i9 = 1 ∨ i9 = 2 ∨ i9 = 3 by omega) with rfl | rfl | rfl | rfl; exact hGr9; exact hGr12; exact hGr15; exact hGr18), _, rfl, ((va_up_ne _ _ (ne_k hftx (hfmr 3 (by decide)) (by simp))).trans ((va_up_ne _ _ (ne_k hftx (hfmr 2 (by decide)) (by simp))).trans ((va_up_ne _ _ (ne_k hftx (hfmr 1 (by decide)) (by simp))).trans ((va_up_ne _ _ (ne_k hftx (hfmr 0 (by decide)) (by simp))).trans (va_up_self _ _ _))))), ((va_up_ne _ _ (hlm 3 (by decide))).trans ((va_up_ne _ _ (hlm 2 (by decide))).trans ((va_up_ne _ _ (hlm 1 (by decide))).trans ((va_up_ne _ _ (hlm 0 (by decide))).trans ((va_up_ne _ _ (ne_k hfla hftx (by simp))).trans (va_up_self _ _ _)))))), (fun i9 hi9 => by rcases (show i9 = 0 ∨ i9 = 1 ∨ i9 = 2 ∨ i9 = 3 by omega) with rfl | rfl | rfl | rfl; exact ((va_up_ne _ _ (fun e9 => absurd (hinj 0 3 (by decide) (by decide) e9) (by decide))).trans ((va_up_ne _ _ (fun e9 => absurd (hinj 0 2 (by decide) (by decide) e9) (by decide))).trans ((va_up_ne _ _ (fun e9 => absurd (hinj 0 1 (by decide) (by decide) e9) (by decide))).trans (va_up_self _ _ _)))); exact ((va_up_ne _ _ (fun e9 => absurd (hinj 1 3 (by decide) (by decide) e9) (by decide))).trans ((va_up_ne _ _ (fun e9 => absurd (hinj 1 2 (by decide) (by decide) e9) (by decide))).trans (va_up_self _ _ _))); exact ((va_up_ne _ _ (fun e9 => absurd (hinj 2 3 (by decide) (by decide) e9) (by decide))).trans (va_up_self _ _ _)); exact (va_up_self _ _ _)), fun a9 h1 h2 h3 => ((va_up_ne _ _ (h3 3 (by decide))).trans ((va_up_ne _ _ (h3 2 (by decide))).trans ((va_up_ne _ _ (h3 1 (by decide))).trans ((va_up_ne _ _ (h3 0 (by decide))).trans ((va_up_ne _ _ h1).trans ((va_up_ne _ _ h2).trans rfl))))))⟩) dX8_put_135 hlocks
                        · exact absurd c19 (by omega)
              · refine lv_aload_n hx hb dX8_put_68 rfl (lv_at hl 0 rfl) ?_
                refine pl_get (ci := 7) (v := .ref la) (C := RX8) (T := TX8) (N := 3) hx hb hts hi_X8 hown hK hP htx ((va_up_ne _ _ (ne_k hftx hfla (by simp))).trans hftx) rfl 0 (by decide) hw_3 (fun _ h9 => h9) rfl dX8_put_69 ?_
                refine lv_iload_n hx hb dX8_put_72 rfl (lv_at hl 3 rfl) ?_
                refine lv_aload_n hx hb dX8_put_73 rfl (lv_at hl 0 rfl) ?_
                refine pl_get (ci := 7) (v := .ref la) (C := RX8) (T := TX8) (N := 3) hx hb hts hi_X8 hown hK hP htx ((va_up_ne _ _ (ne_k hftx hfla (by simp))).trans hftx) rfl 0 (by decide) hw_3 (fun _ h9 => h9) rfl dX8_put_74 ?_
                refine lv_iload_n hx hb dX8_put_77 rfl (lv_at hl 3 rfl) ?_
                refine zr_const hx hb dX8_put_78 ?_
                refine zr_sub hx hb dX8_put_79 ?_
                refine pl_iald hx hb hK hP hla 0 (va_up_self _ _ _) rfl ((z3 - 1).toNat) (by omega) (by omega) (by decide) dX8_put_80 ?_
                refine pl_iast (x := (((shU T z n z3)) ((z3 - 1).toNat))) hx hb hK hP hD hS hla 0 (va_up_self _ _ _) rfl ((z3).toNat) (by omega) (by omega) (by decide) dX8_put_81 (fun H locs hP hD hS => ?_)
                rw [bx_uu] at hP hD
                have hP : va_P D vwCl (va_pl L (va_up f la (.inl (k 0, 24, .inl (upd ((shU T z n z3)) ((z3).toNat) (((shU T z n z3)) ((z3 - 1).toNat))))))) H := hP
                have hD : va_D A (va_pl L (va_up f la (.inl (k 0, 24, .inl (upd ((shU T z n z3)) ((z3).toNat) (((shU T z n z3)) ((z3 - 1).toNat))))))) := hD
                refine zr_iinc (k := 3) (lv' := [(3, .int (zI (z3 + (-1)))), (0, .ref tx), (1, .int (zI (z))), (2, .int (zI (y)))]) hx hb dX8_put_82 hl rfl (by decide) rfl (fun ls hl => ?_)
                refine lv_goto (tgt := 63) hx hb dX8_put_85 (by decide) ?_
                have hg9 : ((upd ((shU T z n z3)) ((z3).toNat) (((shU T z n z3)) ((z3 - 1).toNat))) : Nat → Int32) = shU T z n (z3 + (-1)) := by exact shU_s (by omega)
                rw [hg9] at hP hD
                exact ih_63 (z3 + (-1)) (by omega) (by omega) _ _ hP hD hS _ (lv_sub hl [1, 2, 3, 0] rfl)
          rw [← up_id (a := la) hfla] at hP hD
          have hg9 : (T : Nat → Int32) = shU T z n (n) := by exact (shU_0 T z n).symm
          rw [hg9] at hP hD
          exact cut_63 (((n) : Int).toNat + 1) (n) (by omega) (by omega) _ _ hP hD hS _ (lv_sub hl [1, 2, 3, 0] rfl)
        · exfalso; omega
      · exact absurd (plB_t (by omega)) (by simp [*])
    · exfalso; omega

set_option maxHeartbeats 4000000 in
set_option maxRecDepth 100000 in
theorem kX8_put_x (l : Launch) (D : va_G) (k : Nat → ClassId) (L : List Nat) (f : Nat → va_E) (tx la ma : Nat) (n : Int) (T : Nat → Int32) (htx : tx ∈ L) (hftx : f tx = .inr (7, [.ref la, .ref ma, .int (zI n)])) (hla : la ∈ L) (hfla : f la = .inl (k 0, 24, .inl T)) (hn : 0 ≤ n ∧ n ≤ 24) (z y : Int) (hz : -2147483648 ≤ z ∧ z < 2147483648) (hy : -2147483648 ≤ y ∧ y < 2147483648) (E9 : String) (hE : (¬ (0 ≤ z ∧ z ≤ n) ∧ E9 = "java/lang/IndexOutOfBoundsException") ∨ ((0 ≤ z ∧ z ≤ n) ∧ ¬ (0 ≤ y ∧ y < 6) ∧ E9 = "java/lang/IllegalArgumentException") ∨ ((0 ≤ z ∧ z ≤ n) ∧ (0 ≤ y ∧ y < 6) ∧ n = 24 ∧ E9 = "java/lang/IllegalStateException")) (hlt : l.stackTraces = false) (n0 sz : Nat) : vx_Met l yX8_put wsX8_put ({ frames := 6, cells := 1, slots := 6, locals := 82 } : Room) (va_Pc [.ref tx, .int (zI (z)), .int (zI (y))] (xPre D (tyL k) n0 (va_pl L f) sz)) (va_Qv (fun _ => False) (pB D (va_pl L f) sz) (va_A (va_pl L f) sz)) (xX D (va_pl L f) sz (fun E u => E = E9 ∧ u = va_pl L f)) 1 6 (va_A (va_pl L f) sz) := by
  refine vx_ofW (cc := cX8_put) (maxL := 4) (ret := (some .int)) (by decide) rfl ?_
  intro p e s m args below meth c s₁ B hml hno hv
  obtain ⟨rfl, ⟨hsz, hn9, hP, hC, hD0⟩, hX⟩ := hv
  have hK := hC.1
  have hNW := hC.2.1
  have hx := B.exec
  have hb := B.bytes
  have hrt := B.returns
  have hts := atoms_spec (ws := wsX8_put) B.pre
  have hown : s.vm.findClass RX8 = some m.cls := findClass_of_methodNamed B.named
  have hlocks := B.notSynchronized
  subst hsz
  obtain ⟨A, hAd⟩ : ∃ A, A = va_A (va_pl L f) s.heap.size := ⟨_, rfl⟩
  have hD := hD0.self (sz := s.heap.size)
  rw [← hAd] at hD
  have hA : ∀ q : Nat, s.heap.size ≤ q → A q := fun q h => by rw [hAd]; exact Or.inr h
  have hAn : ∀ q : Nat, A q → n0 ≤ q := fun q h => by
    rw [hAd] at h
    rcases h with ⟨k9, e9, hk9⟩ | h
    · exact hD0.2 k9 _ hk9
    · exact Nat.le_trans hn9 h
  have hS : va_S A s.heap s.heap [] := va_S.rf
  have hi_X8 : ∀ w ∈ u_ws RX8 TX8 3, w ∈ wsX8_put := by decide +kernel
  have hw_0 := hts (.classLink RX8 26 "java/lang/IndexOutOfBoundsException") (by decide +kernel)
  have hw_1 := hts (.initialized "java/lang/IndexOutOfBoundsException") (by decide +kernel)
  have hw_2 := hts (.fieldLink RX8 22 "Regionry$Text" "size" "I") (by decide +kernel)
  have hw_3 := hts (.initialized RX9) (by decide +kernel)
  have hw_4 := hts (.static yX9_isLetter) (by decide +kernel)
  have hw_5 := hts (.classLink RX8 42 "java/lang/IllegalStateException") (by decide +kernel)
  have hw_6 := hts (.initialized "java/lang/IllegalStateException") (by decide +kernel)
  have hw_7 := hts (.classLink RX8 37 "java/lang/IllegalArgumentException") (by decide +kernel)
  have hw_8 := hts (.initialized "java/lang/IllegalArgumentException") (by decide +kernel)
  have hl := lv_entry ([.ref tx, .int (zI (z)), .int (zI (y))]) (n := 4) (Nat.le_of_ble_eq_true rfl)
  rw [lg_entry_eq]
  generalize (lg_sl ([.ref tx, .int (zI (z)), .int (zI (y))]) ++ List.replicate (4 - (lg_sl ([.ref tx, .int (zI (z)), .int (zI (y))])).length) Slot.unset).toArray = ls at hl ⊢
  have hl : lv_has ls 4 [(0, .ref tx), (1, .int (zI (z))), (2, .int (zI (y)))] := hl
  obtain ⟨Q, hQ⟩ : ∃ Q, Q = vx_MQ below (va_Qv (fun _ => False) (pB D (va_pl L f) s.heap.size) (va_A (va_pl L f) s.heap.size)) (xX D (va_pl L f) s.heap.size (fun E u => E = E9 ∧ u = va_pl L f)) ([.ref tx, .int (zI (z)), .int (zI (y))] : List Value).toArray s 1 6 (va_A (va_pl L f) s.heap.size) := ⟨_, rfl⟩
  rw [← hQ]
  refine lv_iload_n hx hb dX8_put_0 rfl (lv_at hl 1 rfl) ?_
  refine zr_if_lt (tgt := 12) hx hb dX8_put_1 (by decide) (by omega) (fun c1 => ?_) (fun c1 => ?_)
  · rw [hQ]
    exact px_throw (own := RX8) (cls := "java/lang/IndexOutOfBoundsException") (text := "no such place") (ik := 26) (is := 28) (ic := 30) hx hb hlt hown (by decide) hw_0 hw_1 (by decide) hX (px_hat hts hNW hX (by decide +kernel) (by decide +kernel) (by decide +kernel)) (by decide +kernel) hP (by rw [← hAd]; exact hD) (by rw [← hAd]; exact hS) (by rw [← hAd]; exact hAn) (hl.1.trans hml.symm) dX8_put_12 dX8_put_15 dX8_put_16 dX8_put_18 dX8_put_21 hno (Nat.le_of_ble_eq_true rfl) (Nat.le_of_ble_eq_true rfl) (Nat.le_of_ble_eq_true rfl) (Nat.le_of_ble_eq_true rfl) hlocks (Nat.le_of_ble_eq_true rfl) (Nat.le_of_ble_eq_true rfl) (⟨by rcases hE with ⟨h1, rfl⟩ | ⟨h1, h2, rfl⟩ | ⟨h1, h2, h3, rfl⟩ <;> first | rfl | (exfalso; omega), rfl⟩)
  · refine lv_iload_n hx hb dX8_put_4 rfl (lv_at hl 1 rfl) ?_
    refine lv_aload_n hx hb dX8_put_5 rfl (lv_at hl 0 rfl) ?_
    refine pl_get (ci := 7) (v := .int (zI (n))) (C := RX8) (T := TX8) (N := 3) hx hb hts hi_X8 hown hK hP htx hftx rfl 2 (by decide) hw_2 (fun _ h9 => h9) rfl dX8_put_6 ?_
    refine zr_icmp_le (tgt := 22) hx hb dX8_put_9 (by decide) (by omega) (by omega) (fun c2 => ?_) (fun c2 => ?_)
    · refine lv_iload_n hx hb dX8_put_22 rfl (lv_at hl 2 rfl) ?_
      refine vp_callSi (va_Run.run (va_runSN (As := [.int (zI (y))]) (rest := []) ⟨hx, hb, hml, hown, hts⟩ (kX9_isLetter l D k L f (y) (by omega)) ⟨va_cnB 1 hts gX8_put_X9_isLetter_n33 rfl rfl rfl (hNW (.methodLinkNest RX8 33 yX9_isLetter "Regionry") (by decide +kernel)) hw_3 (by decide +kernel) ⟨Nat.le_of_ble_eq_true rfl, Nat.le_of_ble_eq_true rfl⟩, hw_4, trivial⟩ (rc_preS hC hP) rfl rfl hl.1 rfl (lv_room (Nat.le_of_ble_eq_true rfl)) dX8_put_23 ⟨Nat.zero_le _, Nat.zero_le _⟩)) (fun r3 hr3 => ?_)
      subst hr3
      refine zr_ifb_ne (tgt := 39) hx hb dX8_put_26 (by decide) (fun c4 => ?_) (fun c4 => ?_)
      · have hpl := plB_r c4
        refine lv_aload_n hx hb dX8_put_39 rfl (lv_at hl 0 rfl) ?_
        refine pl_get (ci := 7) (v := .int (zI (n))) (C := RX8) (T := TX8) (N := 3) hx hb hts hi_X8 hown hK hP htx hftx rfl 2 (by decide) hw_2 (fun _ h9 => h9) rfl dX8_put_40 ?_
        refine zr_bipush hx hb dX8_put_43 (by decide) ?_
        refine zr_icmp_lt (tgt := 58) hx hb dX8_put_45 (by decide) (by omega) (by omega) (fun c5 => ?_) (fun c5 => ?_)
        · exfalso; omega
        · rw [hQ]
          exact px_throw (own := RX8) (cls := "java/lang/IllegalStateException") (text := "no room for another letter") (ik := 42) (is := 44) (ic := 46) hx hb hlt hown (by decide) hw_5 hw_6 (by decide) hX (px_hat hts hNW hX (by decide +kernel) (by decide +kernel) (by decide +kernel)) (by decide +kernel) hP (by rw [← hAd]; exact hD) (by rw [← hAd]; exact hS) (by rw [← hAd]; exact hAn) (hl.1.trans hml.symm) dX8_put_48 dX8_put_51 dX8_put_52 dX8_put_54 dX8_put_57 hno (Nat.le_of_ble_eq_true rfl) (Nat.le_of_ble_eq_true rfl) (Nat.le_of_ble_eq_true rfl) (Nat.le_of_ble_eq_true rfl) hlocks (Nat.le_of_ble_eq_true rfl) (Nat.le_of_ble_eq_true rfl) (⟨by rcases hE with ⟨h1, rfl⟩ | ⟨h1, h2, rfl⟩ | ⟨h1, h2, h3, rfl⟩ <;> first | rfl | (exfalso; omega), rfl⟩)
      · have hpl := plB_s c4
        rw [hQ]
        exact px_throw (own := RX8) (cls := "java/lang/IllegalArgumentException") (text := "no such letter") (ik := 37) (is := 39) (ic := 41) hx hb hlt hown (by decide) hw_7 hw_8 (by decide) hX (px_hat hts hNW hX (by decide +kernel) (by decide +kernel) (by decide +kernel)) (by decide +kernel) hP (by rw [← hAd]; exact hD) (by rw [← hAd]; exact hS) (by rw [← hAd]; exact hAn) (hl.1.trans hml.symm) dX8_put_29 dX8_put_32 dX8_put_33 dX8_put_35 dX8_put_38 hno (Nat.le_of_ble_eq_true rfl) (Nat.le_of_ble_eq_true rfl) (Nat.le_of_ble_eq_true rfl) (Nat.le_of_ble_eq_true rfl) hlocks (Nat.le_of_ble_eq_true rfl) (Nat.le_of_ble_eq_true rfl) (⟨by rcases hE with ⟨h1, rfl⟩ | ⟨h1, h2, rfl⟩ | ⟨h1, h2, h3, rfl⟩ <;> first | rfl | (exfalso; omega), rfl⟩)
    · rw [hQ]
      exact px_throw (own := RX8) (cls := "java/lang/IndexOutOfBoundsException") (text := "no such place") (ik := 26) (is := 28) (ic := 30) hx hb hlt hown (by decide) hw_0 hw_1 (by decide) hX (px_hat hts hNW hX (by decide +kernel) (by decide +kernel) (by decide +kernel)) (by decide +kernel) hP (by rw [← hAd]; exact hD) (by rw [← hAd]; exact hS) (by rw [← hAd]; exact hAn) (hl.1.trans hml.symm) dX8_put_12 dX8_put_15 dX8_put_16 dX8_put_18 dX8_put_21 hno (Nat.le_of_ble_eq_true rfl) (Nat.le_of_ble_eq_true rfl) (Nat.le_of_ble_eq_true rfl) (Nat.le_of_ble_eq_true rfl) hlocks (Nat.le_of_ble_eq_true rfl) (Nat.le_of_ble_eq_true rfl) (⟨by rcases hE with ⟨h1, rfl⟩ | ⟨h1, h2, rfl⟩ | ⟨h1, h2, h3, rfl⟩ <;> first | rfl | (exfalso; omega), rfl⟩)

set_option maxHeartbeats 4000000 in
set_option maxRecDepth 100000 in
theorem kX8_take (l : Launch) (D : va_G) (k : Nat → ClassId) (L : List Nat) (f : Nat → va_E) (tx la ma : Nat) (n : Int) (T : Nat → Int32) (htx : tx ∈ L) (hftx : f tx = .inr (7, [.ref la, .ref ma, .int (zI n)])) (hla : la ∈ L) (hfla : f la = .inl (k 0, 24, .inl T)) (hn : 0 ≤ n ∧ n ≤ 24) (ms mr : Nat → Nat) (M : Nat → Option Nat) (R : Nat → Nat → Int32) (hma : ma ∈ L) (hfma : f ma = .inl (k 3, 4, .inr (.inr (.inr (.inr M))))) (hM : ∀ j, j < 4 → M j = some (ms j)) (hms : ∀ j, j < 4 → ms j ∈ L) (hfms : ∀ j, j < 4 → f (ms j) = .inr (5, [.ref (mr j)])) (hmr : ∀ j, j < 4 → mr j ∈ L) (hfmr : ∀ j, j < 4 → f (mr j) = .inl (k 0, 24, .inl (R j))) (hinj : ∀ i j, i < 4 → j < 4 → mr i = mr j → i = j) (hlm : ∀ j, j < 4 → la ≠ mr j) (z : Int) (hz : 0 ≤ z ∧ z < n) (n0 sz : Nat) : Met l yX8_take wsX8_take ({ frames := 4, cells := 0, slots := 0, locals := 85 } : Room) (va_Pc [.ref tx, .int (zI (z))] (pPre D (tyL k) n0 (va_pl L f) sz)) (va_Qi (fun r9 u => r9 = T z.toNat ∧ ∃ F, u = va_pl L F ∧ F tx = .inr (7, [.ref la, .ref ma, .int (zI (n - 1))]) ∧ F la = .inl (k 0, 24, .inl (shD T z (n - 1))) ∧ (∀ i, i < 4 → F (mr i) = .inl (k 0, 24, .inl (fa_fill (clF (R i) z) (R i) 24))) ∧ ∀ a, a ≠ tx → a ≠ la → (∀ i, i < 4 → a ≠ mr i) → F a = f a) (pB D (va_pl L f) sz) (va_A (va_pl L f) sz)) 0 0 (va_A (va_pl L f) sz) := by
  refine Met.ofW (cc := cX8_take) (maxL := 4) (ret := (some .int)) (by decide) rfl ?_
  intro p e s m args below meth c s₁ B hml hv
  obtain ⟨rfl, hsz, hn9, hP, hC, hD0⟩ := hv
  have hK := hC.1
  have hNW := hC.2.1
  have hx := B.exec
  have hb := B.bytes
  have hrt := B.returns
  have hts := atoms_spec (ws := wsX8_take) B.pre
  have hown : s.vm.findClass RX8 = some m.cls := findClass_of_methodNamed B.named
  have hlocks := B.notSynchronized
  subst hsz
  obtain ⟨A, hAd⟩ : ∃ A, A = va_A (va_pl L f) s.heap.size := ⟨_, rfl⟩
  have hD := hD0.self (sz := s.heap.size)
  rw [← hAd] at hD
  have hA : ∀ q : Nat, s.heap.size ≤ q → A q := fun q h => by rw [hAd]; exact Or.inr h
  have hAn : ∀ q : Nat, A q → n0 ≤ q := fun q h => by
    rw [hAd] at h
    rcases h with ⟨k9, e9, hk9⟩ | h
    · exact hD0.2 k9 _ hk9
    · exact Nat.le_trans hn9 h
  have hS : va_S A s.heap s.heap [] := va_S.rf
  have hi_X8 : ∀ w ∈ u_ws RX8 TX8 3, w ∈ wsX8_take := by decide +kernel
  have hw_0 := hts (.fieldLink RX8 22 "Regionry$Text" "size" "I") (by decide +kernel)
  have hw_1 := hts (.fieldLink RX8 17 "Regionry$Text" "marks" "[LRegionry$RegionSet;") (by decide +kernel)
  have hw_2 := hts (.fieldLink RX8 9 "Regionry$Text" "letters" "[I") (by decide +kernel)
  have hl := lv_entry ([.ref tx, .int (zI (z))]) (n := 4) (Nat.le_of_ble_eq_true rfl)
  rw [lg_entry_eq]
  generalize (lg_sl ([.ref tx, .int (zI (z))]) ++ List.replicate (4 - (lg_sl ([.ref tx, .int (zI (z))])).length) Slot.unset).toArray = ls at hl ⊢
  have hl : lv_has ls 4 [(0, .ref tx), (1, .int (zI (z)))] := hl
  obtain ⟨Q, hQ⟩ : ∃ Q, Q = MQ below (va_Qi (fun r9 u => r9 = T z.toNat ∧ ∃ F, u = va_pl L F ∧ F tx = .inr (7, [.ref la, .ref ma, .int (zI (n - 1))]) ∧ F la = .inl (k 0, 24, .inl (shD T z (n - 1))) ∧ (∀ i, i < 4 → F (mr i) = .inl (k 0, 24, .inl (fa_fill (clF (R i) z) (R i) 24))) ∧ ∀ a, a ≠ tx → a ≠ la → (∀ i, i < 4 → a ≠ mr i) → F a = f a) (pB D (va_pl L f) s.heap.size) (va_A (va_pl L f) s.heap.size)) ([.ref tx, .int (zI (z))] : List Value).toArray s 0 0 (va_A (va_pl L f) s.heap.size) := ⟨_, rfl⟩
  rw [← hQ]
  refine lv_aload_n hx hb dX8_take_0 rfl (lv_at hl 0 rfl) ?_
  refine lv_iload_n hx hb dX8_take_1 rfl (lv_at hl 1 rfl) ?_
  refine vp_callSi (va_Run.run (va_runV (As := [.int (zI (z))]) (rest := []) ⟨hx, hb, hml, hown, hts⟩ (kX8_letterOf l D k L f tx la ma n T htx hftx hla hfla (by omega) (z) (by omega)) (cwV 1 hts gX8_take_X8_letterOf rfl rfl rfl (by decide +kernel) ⟨Nat.le_of_ble_eq_true rfl, Nat.le_of_ble_eq_true rfl⟩) (rc_preV hC hP (pl_recv hK hP htx hftx (ci := 7) (q := (RX8, TX8, 3)) rfl)) rfl rfl hl.1 rfl (lv_room (Nat.le_of_ble_eq_true rfl)) dX8_take_2 ⟨Nat.zero_le _, Nat.zero_le _⟩)) (fun r1 hr1 => ?_)
  subst hr1
  refine lv_istore_n (lv' := [(2, .int (T (z).toNat)), (0, .ref tx), (1, .int (zI (z)))]) hx hb dX8_take_5 rfl hl (by decide) rfl (fun ls hl => ?_)
  refine lv_aload_n hx hb dX8_take_6 rfl (lv_at hl 1 rfl) ?_
  refine lv_dup hx hb dX8_take_7 rfl ?_
  refine pl_get (ci := 7) (v := .int (zI (n))) (C := RX8) (T := TX8) (N := 3) hx hb hts hi_X8 hown hK hP htx hftx rfl 2 (by decide) hw_0 (fun _ h9 => h9) rfl dX8_take_8 ?_
  refine zr_const hx hb dX8_take_11 ?_
  refine zr_sub hx hb dX8_take_12 ?_
  refine pl_put (ci := 7) (v := .int (zI (n - 1))) (ty := .int) (C := RX8) (T := TX8) (N := 3) hx hb hts hi_X8 tyX8 tyX8_ok nmX8 hown hK hP hD hS htx hftx rfl 2 (by decide) hw_0 (fun _ h9 => h9) rfl (by decide +kernel) rfl rfl (Nat.le_of_ble_eq_true rfl) dX8_take_13 (fun H locs hP hD hS => ?_)
  have hP : va_P D vwCl (va_pl L (va_up f tx (.inr (7, [.ref la, .ref ma, .int (zI (n - 1))])))) H := hP
  have hD : va_D A (va_pl L (va_up f tx (.inr (7, [.ref la, .ref ma, .int (zI (n - 1))])))) := hD
  refine lv_iload_n hx hb dX8_take_16 rfl (lv_at hl 2 rfl) ?_
  refine lv_istore_n (lv' := [(3, .int (zI (z))), (2, .int (T (z).toNat)), (0, .ref tx), (1, .int (zI (z)))]) hx hb dX8_take_17 rfl hl (by decide) rfl (fun ls hl => ?_)
  have cut_18 : ∀ (n9 : Nat) (z3 : Int), (z ≤ z3 ∧ z3 ≤ n - 1) → n - z3 < (n9 : Int) → ∀ (H : Heap) (locs : List Loc), va_P D vwCl (va_pl L (va_up (va_up f tx (.inr (7, [.ref la, .ref ma, .int (zI (n - 1))]))) la (.inl (k 0, 24, .inl (shD T z z3))))) H → va_D A (va_pl L (va_up (va_up f tx (.inr (7, [.ref la, .ref ma, .int (zI (n - 1))]))) la (.inl (k 0, 24, .inl (shD T z z3))))) → va_S A s.heap H locs → ∀ (ls : Array Slot), lv_has ls 4 [(0, .ref tx), (1, .int (zI (z))), (2, .int (T (z).toNat)), (3, .int (zI (z3)))] → W p l e (headSpec wsX8_take ({ frames := 4, cells := 0, slots := 0, locals := 85 } : Room)).room s m ([.ref tx, .int (zI (z))] : List Value).toArray below meth c H locs 0 0 Q (F0 m 18 ls []) := by
    intro n9
    induction n9 with
    | zero =>
      intro z3 hz3 hfu
      exact absurd hfu (by omega)
    | succ n9 ih_18 =>
      intro z3 hz3 hfu H locs hP hD hS ls hl
      refine lv_iload_n hx hb dX8_take_18 rfl (lv_at hl 3 rfl) ?_
      refine lv_aload_n hx hb dX8_take_19 rfl (lv_at hl 0 rfl) ?_
      refine pl_get (ci := 7) (v := .int (zI (n - 1))) (C := RX8) (T := TX8) (N := 3) hx hb hts hi_X8 hown hK hP htx ((va_up_ne _ _ (ne_k hftx hfla (by simp))).trans (va_up_self _ _ _)) rfl 2 (by decide) hw_0 (fun _ h9 => h9) rfl dX8_take_20 ?_
      refine zr_icmp_ge (tgt := 57) hx hb dX8_take_23 (by decide) (by omega) (by omega) (fun c2 => ?_) (fun c2 => ?_)
      · have hzz : z3 = n - 1 := by omega
        rw [hzz] at hP hD
        refine zr_const hx hb dX8_take_57 ?_
        refine lv_istore_n (lv' := [(3, .int (zI (0))), (0, .ref tx), (1, .int (zI (z))), (2, .int (T (z).toNat))]) hx hb dX8_take_58 rfl hl (by decide) rfl (fun ls hl => ?_)
        refine lv_iload_n hx hb dX8_take_59 rfl (lv_at hl 0 rfl) ?_
        refine lv_aload_n hx hb dX8_take_60 rfl (lv_at hl 1 rfl) ?_
        refine pl_get (ci := 7) (v := .ref ma) (C := RX8) (T := TX8) (N := 3) hx hb hts hi_X8 hown hK hP htx ((va_up_ne _ _ (ne_k hftx hfla (by simp))).trans (va_up_self _ _ _)) rfl 1 (by decide) hw_1 (fun _ h9 => h9) rfl dX8_take_61 ?_
        refine pl_alen (ty := .object RX6) hx hb hK hP hma 3 ((va_up_ne _ _ (ne_k hfma hfla (by simp))).trans ((va_up_ne _ _ (ne_k hfma hftx (by simp))).trans hfma)) rfl (4) rfl dX8_take_64 ?_
        refine zr_icmp_ge (tgt := 83) hx hb dX8_take_65 (by decide) (by omega) (by omega) (fun c3 => ?_) (fun c3 => ?_)
        · exact absurd c3 (by omega)
        · refine lv_aload_n hx hb dX8_take_68 rfl (lv_at hl 1 rfl) ?_
          refine lv_iload_n hx hb dX8_take_69 rfl (lv_at hl 0 rfl) ?_
          refine va_csr (va_Run.run (va_runV (As := [.int (zI (0))]) (rest := []) ⟨hx, hb, hml, hown, hts⟩ (kX8_marksOf l D k L (va_up (va_up f tx (.inr (7, [.ref la, .ref ma, .int (zI (n - 1))]))) la (.inl (k 0, 24, .inl (shD T z (n - 1))))) tx la ma (n - 1) ((shD T z (n - 1))) htx ((va_up_ne _ _ (ne_k hftx hfla (by simp))).trans (va_up_self _ _ _)) hla (va_up_self _ _ _) (by omega) ms mr M (fun j9 => if j9 = 0 then (R 0) else if j9 = 1 then (R 1) else if j9 = 2 then (R 2) else (R 3)) hma ((va_up_ne _ _ (ne_k hfma hfla (by simp))).trans ((va_up_ne _ _ (ne_k hfma hftx (by simp))).trans hfma)) hM (fun j9 h9 => by rcases (show j9 = 0 ∨ j9 = 1 ∨ j9 = 2 ∨ j9 = 3 by omega) with rfl | rfl | rfl | rfl; exact (hms 0 (by decide)); exact (hms 1 (by decide)); exact (hms 2 (by decide)); exact (hms 3 (by decide))) (fun j9 h9 => by rcases (show j9 = 0 ∨ j9 = 1 ∨ j9 = 2 ∨ j9 = 3 by omega) with rfl | rfl | rfl | rfl; exact ((va_up_ne _ _ (ne_k (hfms 0 (by decide)) hfla (by simp))).trans ((va_up_ne _ _ (ne_k (hfms 0 (by decide)) hftx (by simp))).trans (hfms 0 (by decide)))); exact ((va_up_ne _ _ (ne_k (hfms 1 (by decide)) hfla (by simp))).trans ((va_up_ne _ _ (ne_k (hfms 1 (by decide)) hftx (by simp))).trans (hfms 1 (by decide)))); exact ((va_up_ne _ _ (ne_k (hfms 2 (by decide)) hfla (by simp))).trans ((va_up_ne _ _ (ne_k (hfms 2 (by decide)) hftx (by simp))).trans (hfms 2 (by decide)))); exact ((va_up_ne _ _ (ne_k (hfms 3 (by decide)) hfla (by simp))).trans ((va_up_ne _ _ (ne_k (hfms 3 (by decide)) hftx (by simp))).trans (hfms 3 (by decide))))) (fun j9 h9 => by rcases (show j9 = 0 ∨ j9 = 1 ∨ j9 = 2 ∨ j9 = 3 by omega) with rfl | rfl | rfl | rfl; exact (hmr 0 (by decide)); exact (hmr 1 (by decide)); exact (hmr 2 (by decide)); exact (hmr 3 (by decide))) (fun j9 h9 => by rcases (show j9 = 0 ∨ j9 = 1 ∨ j9 = 2 ∨ j9 = 3 by omega) with rfl | rfl | rfl | rfl; exact ((va_up_ne _ _ (Ne.symm (hlm 0 (by decide)))).trans ((va_up_ne _ _ (ne_k (hfmr 0 (by decide)) hftx (by simp))).trans (hfmr 0 (by decide)))); exact ((va_up_ne _ _ (Ne.symm (hlm 1 (by decide)))).trans ((va_up_ne _ _ (ne_k (hfmr 1 (by decide)) hftx (by simp))).trans (hfmr 1 (by decide)))); exact ((va_up_ne _ _ (Ne.symm (hlm 2 (by decide)))).trans ((va_up_ne _ _ (ne_k (hfmr 2 (by decide)) hftx (by simp))).trans (hfmr 2 (by decide)))); exact ((va_up_ne _ _ (Ne.symm (hlm 3 (by decide)))).trans ((va_up_ne _ _ (ne_k (hfmr 3 (by decide)) hftx (by simp))).trans (hfmr 3 (by decide))))) hinj hlm (0) (by omega)) (cwV 1 hts gX8_take_X8_marksOf rfl rfl rfl (by decide +kernel) ⟨Nat.le_of_ble_eq_true rfl, Nat.le_of_ble_eq_true rfl⟩) (rc_preV hC hP (pl_recv hK hP htx ((va_up_ne _ _ (ne_k hftx hfla (by simp))).trans (va_up_self _ _ _)) (ci := 7) (q := (RX8, TX8, 3)) rfl)) rfl rfl hl.1 rfl (lv_room (Nat.le_of_ble_eq_true rfl)) dX8_take_70 ⟨Nat.zero_le _, Nat.zero_le _⟩)) (fun r4 hr4 => ?_)
          subst hr4
          refine lv_iload_n hx hb dX8_take_73 rfl (lv_at hl 2 rfl) ?_
          refine pc_callv (va_runV (As := [.int (zI (z))]) (rest := []) ⟨hx, hb, hml, hown, hts⟩ (kX6_closeAt l D k L (va_up (va_up f tx (.inr (7, [.ref la, .ref ma, .int (zI (n - 1))]))) la (.inl (k 0, 24, .inl (shD T z (n - 1))))) (ms 0) (mr 0) ((R 0)) (hms 0 (by decide)) ((va_up_ne _ _ (ne_k (hfms 0 (by decide)) hfla (by simp))).trans ((va_up_ne _ _ (ne_k (hfms 0 (by decide)) hftx (by simp))).trans (hfms 0 (by decide)))) (hmr 0 (by decide)) ((va_up_ne _ _ (Ne.symm (hlm 0 (by decide)))).trans ((va_up_ne _ _ (ne_k (hfmr 0 (by decide)) hftx (by simp))).trans (hfmr 0 (by decide)))) (z) (by omega) n0 _) (cwV 1 hts gX8_take_X6_closeAt rfl rfl rfl (by decide +kernel) ⟨Nat.le_of_ble_eq_true rfl, Nat.le_of_ble_eq_true rfl⟩) (pc_preV hC hP (Nat.le_trans hn9 hS.1) hD hAn (pl_recv hK hP (hms 0 (by decide)) ((va_up_ne _ _ (ne_k (hfms 0 (by decide)) hfla (by simp))).trans ((va_up_ne _ _ (ne_k (hfms 0 (by decide)) hftx (by simp))).trans (hfms 0 (by decide)))) (ci := 5) (q := (RX6, TX6, 1)) rfl)) rfl rfl hl.1 rfl (lv_room (Nat.le_of_ble_eq_true rfl)) dX8_take_74 ⟨Nat.zero_le _, Nat.zero_le _⟩) hD hS hA (fun ur5 H locs hr5 hP hD hS hzr5 => ?_)
          subst hr5
          have hP : va_P D vwCl (va_pl L (va_up (va_up (va_up f tx (.inr (7, [.ref la, .ref ma, .int (zI (n - 1))]))) la (.inl (k 0, 24, .inl (shD T z (n - 1))))) (mr 0) (.inl (k 0, 24, .inl (fa_fill (clF ((R 0)) z) ((R 0)) 24))))) H := hP
          have hD : va_D A (va_pl L (va_up (va_up (va_up f tx (.inr (7, [.ref la, .ref ma, .int (zI (n - 1))]))) la (.inl (k 0, 24, .inl (shD T z (n - 1))))) (mr 0) (.inl (k 0, 24, .inl (fa_fill (clF ((R 0)) z) ((R 0)) 24))))) := hD
          refine zr_iinc (k := 0) (lv' := [(3, .int (zI (0 + 1))), (0, .ref tx), (1, .int (zI (z))), (2, .int (T (z).toNat))]) hx hb dX8_take_77 hl rfl (by decide) rfl (fun ls hl => ?_)
          refine lv_goto (tgt := 59) hx hb dX8_take_80 (by decide) ?_
          refine lv_iload_n hx hb dX8_take_59 rfl (lv_at hl 0 rfl) ?_
          refine lv_aload_n hx hb dX8_take_60 rfl (lv_at hl 1 rfl) ?_
          refine pl_get (ci := 7) (v := .ref ma) (C := RX8) (T := TX8) (N := 3) hx hb hts hi_X8 hown hK hP htx ((va_up_ne _ _ (ne_k hftx (hfmr 0 (by decide)) (by simp))).trans ((va_up_ne _ _ (ne_k hftx hfla (by simp))).trans (va_up_self _ _ _))) rfl 1 (by decide) hw_1 (fun _ h9 => h9) rfl dX8_take_61 ?_
          refine pl_alen (ty := .object RX6) hx hb hK hP hma 3 ((va_up_ne _ _ (ne_k hfma (hfmr 0 (by decide)) (by simp))).trans ((va_up_ne _ _ (ne_k hfma hfla (by simp))).trans ((va_up_ne _ _ (ne_k hfma hftx (by simp))).trans hfma))) rfl (4) rfl dX8_take_64 ?_
          refine zr_icmp_ge (tgt := 83) hx hb dX8_take_65 (by decide) (by omega) (by omega) (fun c6 => ?_) (fun c6 => ?_)
          · exact absurd c6 (by omega)
          · refine lv_aload_n hx hb dX8_take_68 rfl (lv_at hl 1 rfl) ?_
            refine lv_iload_n hx hb dX8_take_69 rfl (lv_at hl 0 rfl) ?_
            refine va_csr (va_Run.run (va_runV (As := [.int (zI (0 + 1))]) (rest := []) ⟨hx, hb, hml, hown, hts⟩ (kX8_marksOf l D k L (va_up (va_up (va_up f tx (.inr (7, [.ref la, .ref ma, .int (zI (n - 1))]))) la (.inl (k 0, 24, .inl (shD T z (n - 1))))) (mr 0) (.inl (k 0, 24, .inl (fa_fill (clF ((R 0)) z) ((R 0)) 24)))) tx la ma (n - 1) ((shD T z (n - 1))) htx ((va_up_ne _ _ (ne_k hftx (hfmr 0 (by decide)) (by simp))).trans ((va_up_ne _ _ (ne_k hftx hfla (by simp))).trans (va_up_self _ _ _))) hla ((va_up_ne _ _ (hlm 0 (by decide))).trans (va_up_self _ _ _)) (by omega) ms mr M (fun j9 => if j9 = 0 then (fa_fill (clF ((R 0)) z) ((R 0)) 24) else if j9 = 1 then (R 1) else if j9 = 2 then (R 2) else (R 3)) hma ((va_up_ne _ _ (ne_k hfma (hfmr 0 (by decide)) (by simp))).trans ((va_up_ne _ _ (ne_k hfma hfla (by simp))).trans ((va_up_ne _ _ (ne_k hfma hftx (by simp))).trans hfma))) hM (fun j9 h9 => by rcases (show j9 = 0 ∨ j9 = 1 ∨ j9 = 2 ∨ j9 = 3 by omega) with rfl | rfl | rfl | rfl; exact (hms 0 (by decide)); exact (hms 1 (by decide)); exact (hms 2 (by decide)); exact (hms 3 (by decide))) (fun j9 h9 => by rcases (show j9 = 0 ∨ j9 = 1 ∨ j9 = 2 ∨ j9 = 3 by omega) with rfl | rfl | rfl | rfl; exact ((va_up_ne _ _ (ne_k (hfms 0 (by decide)) (hfmr 0 (by decide)) (by simp))).trans ((va_up_ne _ _ (ne_k (hfms 0 (by decide)) hfla (by simp))).trans ((va_up_ne _ _ (ne_k (hfms 0 (by decide)) hftx (by simp))).trans (hfms 0 (by decide))))); exact ((va_up_ne _ _ (ne_k (hfms 1 (by decide)) (hfmr 0 (by decide)) (by simp))).trans ((va_up_ne _ _ (ne_k (hfms 1 (by decide)) hfla (by simp))).trans ((va_up_ne _ _ (ne_k (hfms 1 (by decide)) hftx (by simp))).trans (hfms 1 (by decide))))); exact ((va_up_ne _ _ (ne_k (hfms 2 (by decide)) (hfmr 0 (by decide)) (by simp))).trans ((va_up_ne _ _ (ne_k (hfms 2 (by decide)) hfla (by simp))).trans ((va_up_ne _ _ (ne_k (hfms 2 (by decide)) hftx (by simp))).trans (hfms 2 (by decide))))); exact ((va_up_ne _ _ (ne_k (hfms 3 (by decide)) (hfmr 0 (by decide)) (by simp))).trans ((va_up_ne _ _ (ne_k (hfms 3 (by decide)) hfla (by simp))).trans ((va_up_ne _ _ (ne_k (hfms 3 (by decide)) hftx (by simp))).trans (hfms 3 (by decide)))))) (fun j9 h9 => by rcases (show j9 = 0 ∨ j9 = 1 ∨ j9 = 2 ∨ j9 = 3 by omega) with rfl | rfl | rfl | rfl; exact (hmr 0 (by decide)); exact (hmr 1 (by decide)); exact (hmr 2 (by decide)); exact (hmr 3 (by decide))) (fun j9 h9 => by rcases (show j9 = 0 ∨ j9 = 1 ∨ j9 = 2 ∨ j9 = 3 by omega) with rfl | rfl | rfl | rfl; exact (va_up_self _ _ _); exact ((va_up_ne _ _ (fun e9 => absurd (hinj 1 0 (by decide) (by decide) e9) (by decide))).trans ((va_up_ne _ _ (Ne.symm (hlm 1 (by decide)))).trans ((va_up_ne _ _ (ne_k (hfmr 1 (by decide)) hftx (by simp))).trans (hfmr 1 (by decide))))); exact ((va_up_ne _ _ (fun e9 => absurd (hinj 2 0 (by decide) (by decide) e9) (by decide))).trans ((va_up_ne _ _ (Ne.symm (hlm 2 (by decide)))).trans ((va_up_ne _ _ (ne_k (hfmr 2 (by decide)) hftx (by simp))).trans (hfmr 2 (by decide))))); exact ((va_up_ne _ _ (fun e9 => absurd (hinj 3 0 (by decide) (by decide) e9) (by decide))).trans ((va_up_ne _ _ (Ne.symm (hlm 3 (by decide)))).trans ((va_up_ne _ _ (ne_k (hfmr 3 (by decide)) hftx (by simp))).trans (hfmr 3 (by decide)))))) hinj hlm (0 + 1) (by omega)) (cwV 1 hts gX8_take_X8_marksOf rfl rfl rfl (by decide +kernel) ⟨Nat.le_of_ble_eq_true rfl, Nat.le_of_ble_eq_true rfl⟩) (rc_preV hC hP (pl_recv hK hP htx ((va_up_ne _ _ (ne_k hftx (hfmr 0 (by decide)) (by simp))).trans ((va_up_ne _ _ (ne_k hftx hfla (by simp))).trans (va_up_self _ _ _))) (ci := 7) (q := (RX8, TX8, 3)) rfl)) rfl rfl hl.1 rfl (lv_room (Nat.le_of_ble_eq_true rfl)) dX8_take_70 ⟨Nat.zero_le _, Nat.zero_le _⟩)) (fun r7 hr7 => ?_)
            subst hr7
            refine lv_iload_n hx hb dX8_take_73 rfl (lv_at hl 2 rfl) ?_
            refine pc_callv (va_runV (As := [.int (zI (z))]) (rest := []) ⟨hx, hb, hml, hown, hts⟩ (kX6_closeAt l D k L (va_up (va_up (va_up f tx (.inr (7, [.ref la, .ref ma, .int (zI (n - 1))]))) la (.inl (k 0, 24, .inl (shD T z (n - 1))))) (mr 0) (.inl (k 0, 24, .inl (fa_fill (clF ((R 0)) z) ((R 0)) 24)))) (ms 1) (mr 1) ((R 1)) (hms 1 (by decide)) ((va_up_ne _ _ (ne_k (hfms 1 (by decide)) (hfmr 0 (by decide)) (by simp))).trans ((va_up_ne _ _ (ne_k (hfms 1 (by decide)) hfla (by simp))).trans ((va_up_ne _ _ (ne_k (hfms 1 (by decide)) hftx (by simp))).trans (hfms 1 (by decide))))) (hmr 1 (by decide)) ((va_up_ne _ _ (fun e9 => absurd (hinj 1 0 (by decide) (by decide) e9) (by decide))).trans ((va_up_ne _ _ (Ne.symm (hlm 1 (by decide)))).trans ((va_up_ne _ _ (ne_k (hfmr 1 (by decide)) hftx (by simp))).trans (hfmr 1 (by decide))))) (z) (by omega) n0 _) (cwV 1 hts gX8_take_X6_closeAt rfl rfl rfl (by decide +kernel) ⟨Nat.le_of_ble_eq_true rfl, Nat.le_of_ble_eq_true rfl⟩) (pc_preV hC hP (Nat.le_trans hn9 hS.1) hD hAn (pl_recv hK hP (hms 1 (by decide)) ((va_up_ne _ _ (ne_k (hfms 1 (by decide)) (hfmr 0 (by decide)) (by simp))).trans ((va_up_ne _ _ (ne_k (hfms 1 (by decide)) hfla (by simp))).trans ((va_up_ne _ _ (ne_k (hfms 1 (by decide)) hftx (by simp))).trans (hfms 1 (by decide))))) (ci := 5) (q := (RX6, TX6, 1)) rfl)) rfl rfl hl.1 rfl (lv_room (Nat.le_of_ble_eq_true rfl)) dX8_take_74 ⟨Nat.zero_le _, Nat.zero_le _⟩) hD hS hA (fun ur8 H locs hr8 hP hD hS hzr8 => ?_)
            subst hr8
            have hP : va_P D vwCl (va_pl L (va_up (va_up (va_up (va_up f tx (.inr (7, [.ref la, .ref ma, .int (zI (n - 1))]))) la (.inl (k 0, 24, .inl (shD T z (n - 1))))) (mr 0) (.inl (k 0, 24, .inl (fa_fill (clF ((R 0)) z) ((R 0)) 24)))) (mr 1) (.inl (k 0, 24, .inl (fa_fill (clF ((R 1)) z) ((R 1)) 24))))) H := hP
            have hD : va_D A (va_pl L (va_up (va_up (va_up (va_up f tx (.inr (7, [.ref la, .ref ma, .int (zI (n - 1))]))) la (.inl (k 0, 24, .inl (shD T z (n - 1))))) (mr 0) (.inl (k 0, 24, .inl (fa_fill (clF ((R 0)) z) ((R 0)) 24)))) (mr 1) (.inl (k 0, 24, .inl (fa_fill (clF ((R 1)) z) ((R 1)) 24))))) := hD
            refine zr_iinc (k := 0) (lv' := [(3, .int (zI ((0 + 1) + 1))), (0, .ref tx), (1, .int (zI (z))), (2, .int (T (z).toNat))]) hx hb dX8_take_77 hl rfl (by decide) rfl (fun ls hl => ?_)
            refine lv_goto (tgt := 59) hx hb dX8_take_80 (by decide) ?_
            refine lv_iload_n hx hb dX8_take_59 rfl (lv_at hl 0 rfl) ?_
            refine lv_aload_n hx hb dX8_take_60 rfl (lv_at hl 1 rfl) ?_
            refine pl_get (ci := 7) (v := .ref ma) (C := RX8) (T := TX8) (N := 3) hx hb hts hi_X8 hown hK hP htx ((va_up_ne _ _ (ne_k hftx (hfmr 1 (by decide)) (by simp))).trans ((va_up_ne _ _ (ne_k hftx (hfmr 0 (by decide)) (by simp))).trans ((va_up_ne _ _ (ne_k hftx hfla (by simp))).trans (va_up_self _ _ _)))) rfl 1 (by decide) hw_1 (fun _ h9 => h9) rfl dX8_take_61 ?_
            refine pl_alen (ty := .object RX6) hx hb hK hP hma 3 ((va_up_ne _ _ (ne_k hfma (hfmr 1 (by decide)) (by simp))).trans ((va_up_ne _ _ (ne_k hfma (hfmr 0 (by decide)) (by simp))).trans ((va_up_ne _ _ (ne_k hfma hfla (by simp))).trans ((va_up_ne _ _ (ne_k hfma hftx (by simp))).trans hfma)))) rfl (4) rfl dX8_take_64 ?_
            refine zr_icmp_ge (tgt := 83) hx hb dX8_take_65 (by decide) (by omega) (by omega) (fun c9 => ?_) (fun c9 => ?_)
            · exact absurd c9 (by omega)
            · refine lv_aload_n hx hb dX8_take_68 rfl (lv_at hl 1 rfl) ?_
              refine lv_iload_n hx hb dX8_take_69 rfl (lv_at hl 0 rfl) ?_
              refine va_csr (va_Run.run (va_runV (As := [.int (zI ((0 + 1) + 1))]) (rest := []) ⟨hx, hb, hml, hown, hts⟩ (kX8_marksOf l D k L (va_up (va_up (va_up (va_up f tx (.inr (7, [.ref la, .ref ma, .int (zI (n - 1))]))) la (.inl (k 0, 24, .inl (shD T z (n - 1))))) (mr 0) (.inl (k 0, 24, .inl (fa_fill (clF ((R 0)) z) ((R 0)) 24)))) (mr 1) (.inl (k 0, 24, .inl (fa_fill (clF ((R 1)) z) ((R 1)) 24)))) tx la ma (n - 1) ((shD T z (n - 1))) htx ((va_up_ne _ _ (ne_k hftx (hfmr 1 (by decide)) (by simp))).trans ((va_up_ne _ _ (ne_k hftx (hfmr 0 (by decide)) (by simp))).trans ((va_up_ne _ _ (ne_k hftx hfla (by simp))).trans (va_up_self _ _ _)))) hla ((va_up_ne _ _ (hlm 1 (by decide))).trans ((va_up_ne _ _ (hlm 0 (by decide))).trans (va_up_self _ _ _))) (by omega) ms mr M (fun j9 => if j9 = 0 then (fa_fill (clF ((R 0)) z) ((R 0)) 24) else if j9 = 1 then (fa_fill (clF ((R 1)) z) ((R 1)) 24) else if j9 = 2 then (R 2) else (R 3)) hma ((va_up_ne _ _ (ne_k hfma (hfmr 1 (by decide)) (by simp))).trans ((va_up_ne _ _ (ne_k hfma (hfmr 0 (by decide)) (by simp))).trans ((va_up_ne _ _ (ne_k hfma hfla (by simp))).trans ((va_up_ne _ _ (ne_k hfma hftx (by simp))).trans hfma)))) hM (fun j9 h9 => by rcases (show j9 = 0 ∨ j9 = 1 ∨ j9 = 2 ∨ j9 = 3 by omega) with rfl | rfl | rfl | rfl; exact (hms 0 (by decide)); exact (hms 1 (by decide)); exact (hms 2 (by decide)); exact (hms 3 (by decide))) (fun j9 h9 => by rcases (show j9 = 0 ∨ j9 = 1 ∨ j9 = 2 ∨ j9 = 3 by omega) with rfl | rfl | rfl | rfl; exact ((va_up_ne _ _ (ne_k (hfms 0 (by decide)) (hfmr 1 (by decide)) (by simp))).trans ((va_up_ne _ _ (ne_k (hfms 0 (by decide)) (hfmr 0 (by decide)) (by simp))).trans ((va_up_ne _ _ (ne_k (hfms 0 (by decide)) hfla (by simp))).trans ((va_up_ne _ _ (ne_k (hfms 0 (by decide)) hftx (by simp))).trans (hfms 0 (by decide)))))); exact ((va_up_ne _ _ (ne_k (hfms 1 (by decide)) (hfmr 1 (by decide)) (by simp))).trans ((va_up_ne _ _ (ne_k (hfms 1 (by decide)) (hfmr 0 (by decide)) (by simp))).trans ((va_up_ne _ _ (ne_k (hfms 1 (by decide)) hfla (by simp))).trans ((va_up_ne _ _ (ne_k (hfms 1 (by decide)) hftx (by simp))).trans (hfms 1 (by decide)))))); exact ((va_up_ne _ _ (ne_k (hfms 2 (by decide)) (hfmr 1 (by decide)) (by simp))).trans ((va_up_ne _ _ (ne_k (hfms 2 (by decide)) (hfmr 0 (by decide)) (by simp))).trans ((va_up_ne _ _ (ne_k (hfms 2 (by decide)) hfla (by simp))).trans ((va_up_ne _ _ (ne_k (hfms 2 (by decide)) hftx (by simp))).trans (hfms 2 (by decide)))))); exact ((va_up_ne _ _ (ne_k (hfms 3 (by decide)) (hfmr 1 (by decide)) (by simp))).trans ((va_up_ne _ _ (ne_k (hfms 3 (by decide)) (hfmr 0 (by decide)) (by simp))).trans ((va_up_ne _ _ (ne_k (hfms 3 (by decide)) hfla (by simp))).trans ((va_up_ne _ _ (ne_k (hfms 3 (by decide)) hftx (by simp))).trans (hfms 3 (by decide))))))) (fun j9 h9 => by rcases (show j9 = 0 ∨ j9 = 1 ∨ j9 = 2 ∨ j9 = 3 by omega) with rfl | rfl | rfl | rfl; exact (hmr 0 (by decide)); exact (hmr 1 (by decide)); exact (hmr 2 (by decide)); exact (hmr 3 (by decide))) (fun j9 h9 => by rcases (show j9 = 0 ∨ j9 = 1 ∨ j9 = 2 ∨ j9 = 3 by omega) with rfl | rfl | rfl | rfl; exact ((va_up_ne _ _ (fun e9 => absurd (hinj 0 1 (by decide) (by decide) e9) (by decide))).trans (va_up_self _ _ _)); exact (va_up_self _ _ _); exact ((va_up_ne _ _ (fun e9 => absurd (hinj 2 1 (by decide) (by decide) e9) (by decide))).trans ((va_up_ne _ _ (fun e9 => absurd (hinj 2 0 (by decide) (by decide) e9) (by decide))).trans ((va_up_ne _ _ (Ne.symm (hlm 2 (by decide)))).trans ((va_up_ne _ _ (ne_k (hfmr 2 (by decide)) hftx (by simp))).trans (hfmr 2 (by decide)))))); exact ((va_up_ne _ _ (fun e9 => absurd (hinj 3 1 (by decide) (by decide) e9) (by decide))).trans ((va_up_ne _ _ (fun e9 => absurd (hinj 3 0 (by decide) (by decide) e9) (by decide))).trans ((va_up_ne _ _ (Ne.symm (hlm 3 (by decide)))).trans ((va_up_ne _ _ (ne_k (hfmr 3 (by decide)) hftx (by simp))).trans (hfmr 3 (by decide))))))) hinj hlm ((0 + 1) + 1) (by omega)) (cwV 1 hts gX8_take_X8_marksOf rfl rfl rfl (by decide +kernel) ⟨Nat.le_of_ble_eq_true rfl, Nat.le_of_ble_eq_true rfl⟩) (rc_preV hC hP (pl_recv hK hP htx ((va_up_ne _ _ (ne_k hftx (hfmr 1 (by decide)) (by simp))).trans ((va_up_ne _ _ (ne_k hftx (hfmr 0 (by decide)) (by simp))).trans ((va_up_ne _ _ (ne_k hftx hfla (by simp))).trans (va_up_self _ _ _)))) (ci := 7) (q := (RX8, TX8, 3)) rfl)) rfl rfl hl.1 rfl (lv_room (Nat.le_of_ble_eq_true rfl)) dX8_take_70 ⟨Nat.zero_le _, Nat.zero_le _⟩)) (fun r10 hr10 => ?_)
              subst hr10
              refine lv_iload_n hx hb dX8_take_73 rfl (lv_at hl 2 rfl) ?_
              refine pc_callv (va_runV (As := [.int (zI (z))]) (rest := []) ⟨hx, hb, hml, hown, hts⟩ (kX6_closeAt l D k L (va_up (va_up (va_up (va_up f tx (.inr (7, [.ref la, .ref ma, .int (zI (n - 1))]))) la (.inl (k 0, 24, .inl (shD T z (n - 1))))) (mr 0) (.inl (k 0, 24, .inl (fa_fill (clF ((R 0)) z) ((R 0)) 24)))) (mr 1) (.inl (k 0, 24, .inl (fa_fill (clF ((R 1)) z) ((R 1)) 24)))) (ms 2) (mr 2) ((R 2)) (hms 2 (by decide)) ((va_up_ne _ _ (ne_k (hfms 2 (by decide)) (hfmr 1 (by decide)) (by simp))).trans ((va_up_ne _ _ (ne_k (hfms 2 (by decide)) (hfmr 0 (by decide)) (by simp))).trans ((va_up_ne _ _ (ne_k (hfms 2 (by decide)) hfla (by simp))).trans ((va_up_ne _ _ (ne_k (hfms 2 (by decide)) hftx (by simp))).trans (hfms 2 (by decide)))))) (hmr 2 (by decide)) ((va_up_ne _ _ (fun e9 => absurd (hinj 2 1 (by decide) (by decide) e9) (by decide))).trans ((va_up_ne _ _ (fun e9 => absurd (hinj 2 0 (by decide) (by decide) e9) (by decide))).trans ((va_up_ne _ _ (Ne.symm (hlm 2 (by decide)))).trans ((va_up_ne _ _ (ne_k (hfmr 2 (by decide)) hftx (by simp))).trans (hfmr 2 (by decide)))))) (z) (by omega) n0 _) (cwV 1 hts gX8_take_X6_closeAt rfl rfl rfl (by decide +kernel) ⟨Nat.le_of_ble_eq_true rfl, Nat.le_of_ble_eq_true rfl⟩) (pc_preV hC hP (Nat.le_trans hn9 hS.1) hD hAn (pl_recv hK hP (hms 2 (by decide)) ((va_up_ne _ _ (ne_k (hfms 2 (by decide)) (hfmr 1 (by decide)) (by simp))).trans ((va_up_ne _ _ (ne_k (hfms 2 (by decide)) (hfmr 0 (by decide)) (by simp))).trans ((va_up_ne _ _ (ne_k (hfms 2 (by decide)) hfla (by simp))).trans ((va_up_ne _ _ (ne_k (hfms 2 (by decide)) hftx (by simp))).trans (hfms 2 (by decide)))))) (ci := 5) (q := (RX6, TX6, 1)) rfl)) rfl rfl hl.1 rfl (lv_room (Nat.le_of_ble_eq_true rfl)) dX8_take_74 ⟨Nat.zero_le _, Nat.zero_le _⟩) hD hS hA (fun ur11 H locs hr11 hP hD hS hzr11 => ?_)
              subst hr11
              have hP : va_P D vwCl (va_pl L (va_up (va_up (va_up (va_up (va_up f tx (.inr (7, [.ref la, .ref ma, .int (zI (n - 1))]))) la (.inl (k 0, 24, .inl (shD T z (n - 1))))) (mr 0) (.inl (k 0, 24, .inl (fa_fill (clF ((R 0)) z) ((R 0)) 24)))) (mr 1) (.inl (k 0, 24, .inl (fa_fill (clF ((R 1)) z) ((R 1)) 24)))) (mr 2) (.inl (k 0, 24, .inl (fa_fill (clF ((R 2)) z) ((R 2)) 24))))) H := hP
              have hD : va_D A (va_pl L (va_up (va_up (va_up (va_up (va_up f tx (.inr (7, [.ref la, .ref ma, .int (zI (n - 1))]))) la (.inl (k 0, 24, .inl (shD T z (n - 1))))) (mr 0) (.inl (k 0, 24, .inl (fa_fill (clF ((R 0)) z) ((R 0)) 24)))) (mr 1) (.inl (k 0, 24, .inl (fa_fill (clF ((R 1)) z) ((R 1)) 24)))) (mr 2) (.inl (k 0, 24, .inl (fa_fill (clF ((R 2)) z) ((R 2)) 24))))) := hD
              refine zr_iinc (k := 0) (lv' := [(3, .int (zI (((0 + 1) + 1) + 1))), (0, .ref tx), (1, .int (zI (z))), (2, .int (T (z).toNat))]) hx hb dX8_take_77 hl rfl (by decide) rfl (fun ls hl => ?_)
              refine lv_goto (tgt := 59) hx hb dX8_take_80 (by decide) ?_
              refine lv_iload_n hx hb dX8_take_59 rfl (lv_at hl 0 rfl) ?_
              refine lv_aload_n hx hb dX8_take_60 rfl (lv_at hl 1 rfl) ?_
              refine pl_get (ci := 7) (v := .ref ma) (C := RX8) (T := TX8) (N := 3) hx hb hts hi_X8 hown hK hP htx ((va_up_ne _ _ (ne_k hftx (hfmr 2 (by decide)) (by simp))).trans ((va_up_ne _ _ (ne_k hftx (hfmr 1 (by decide)) (by simp))).trans ((va_up_ne _ _ (ne_k hftx (hfmr 0 (by decide)) (by simp))).trans ((va_up_ne _ _ (ne_k hftx hfla (by simp))).trans (va_up_self _ _ _))))) rfl 1 (by decide) hw_1 (fun _ h9 => h9) rfl dX8_take_61 ?_
              refine pl_alen (ty := .object RX6) hx hb hK hP hma 3 ((va_up_ne _ _ (ne_k hfma (hfmr 2 (by decide)) (by simp))).trans ((va_up_ne _ _ (ne_k hfma (hfmr 1 (by decide)) (by simp))).trans ((va_up_ne _ _ (ne_k hfma (hfmr 0 (by decide)) (by simp))).trans ((va_up_ne _ _ (ne_k hfma hfla (by simp))).trans ((va_up_ne _ _ (ne_k hfma hftx (by simp))).trans hfma))))) rfl (4) rfl dX8_take_64 ?_
              refine zr_icmp_ge (tgt := 83) hx hb dX8_take_65 (by decide) (by omega) (by omega) (fun c12 => ?_) (fun c12 => ?_)
              · exact absurd c12 (by omega)
              · refine lv_aload_n hx hb dX8_take_68 rfl (lv_at hl 1 rfl) ?_
                refine lv_iload_n hx hb dX8_take_69 rfl (lv_at hl 0 rfl) ?_
                refine va_csr (va_Run.run (va_runV (As := [.int (zI (((0 + 1) + 1) + 1))]) (rest := []) ⟨hx, hb, hml, hown, hts⟩ (kX8_marksOf l D k L (va_up (va_up (va_up (va_up (va_up f tx (.inr (7, [.ref la, .ref ma, .int (zI (n - 1))]))) la (.inl (k 0, 24, .inl (shD T z (n - 1))))) (mr 0) (.inl (k 0, 24, .inl (fa_fill (clF ((R 0)) z) ((R 0)) 24)))) (mr 1) (.inl (k 0, 24, .inl (fa_fill (clF ((R 1)) z) ((R 1)) 24)))) (mr 2) (.inl (k 0, 24, .inl (fa_fill (clF ((R 2)) z) ((R 2)) 24)))) tx la ma (n - 1) ((shD T z (n - 1))) htx ((va_up_ne _ _ (ne_k hftx (hfmr 2 (by decide)) (by simp))).trans ((va_up_ne _ _ (ne_k hftx (hfmr 1 (by decide)) (by simp))).trans ((va_up_ne _ _ (ne_k hftx (hfmr 0 (by decide)) (by simp))).trans ((va_up_ne _ _ (ne_k hftx hfla (by simp))).trans (va_up_self _ _ _))))) hla ((va_up_ne _ _ (hlm 2 (by decide))).trans ((va_up_ne _ _ (hlm 1 (by decide))).trans ((va_up_ne _ _ (hlm 0 (by decide))).trans (va_up_self _ _ _)))) (by omega) ms mr M (fun j9 => if j9 = 0 then (fa_fill (clF ((R 0)) z) ((R 0)) 24) else if j9 = 1 then (fa_fill (clF ((R 1)) z) ((R 1)) 24) else if j9 = 2 then (fa_fill (clF ((R 2)) z) ((R 2)) 24) else (R 3)) hma ((va_up_ne _ _ (ne_k hfma (hfmr 2 (by decide)) (by simp))).trans ((va_up_ne _ _ (ne_k hfma (hfmr 1 (by decide)) (by simp))).trans ((va_up_ne _ _ (ne_k hfma (hfmr 0 (by decide)) (by simp))).trans ((va_up_ne _ _ (ne_k hfma hfla (by simp))).trans ((va_up_ne _ _ (ne_k hfma hftx (by simp))).trans hfma))))) hM (fun j9 h9 => by rcases (show j9 = 0 ∨ j9 = 1 ∨ j9 = 2 ∨ j9 = 3 by omega) with rfl | rfl | rfl | rfl; exact (hms 0 (by decide)); exact (hms 1 (by decide)); exact (hms 2 (by decide)); exact (hms 3 (by decide))) (fun j9 h9 => by rcases (show j9 = 0 ∨ j9 = 1 ∨ j9 = 2 ∨ j9 = 3 by omega) with rfl | rfl | rfl | rfl; exact ((va_up_ne _ _ (ne_k (hfms 0 (by decide)) (hfmr 2 (by decide)) (by simp))).trans ((va_up_ne _ _ (ne_k (hfms 0 (by decide)) (hfmr 1 (by decide)) (by simp))).trans ((va_up_ne _ _ (ne_k (hfms 0 (by decide)) (hfmr 0 (by decide)) (by simp))).trans ((va_up_ne _ _ (ne_k (hfms 0 (by decide)) hfla (by simp))).trans ((va_up_ne _ _ (ne_k (hfms 0 (by decide)) hftx (by simp))).trans (hfms 0 (by decide))))))); exact ((va_up_ne _ _ (ne_k (hfms 1 (by decide)) (hfmr 2 (by decide)) (by simp))).trans ((va_up_ne _ _ (ne_k (hfms 1 (by decide)) (hfmr 1 (by decide)) (by simp))).trans ((va_up_ne _ _ (ne_k (hfms 1 (by decide)) (hfmr 0 (by decide)) (by simp))).trans ((va_up_ne _ _ (ne_k (hfms 1 (by decide)) hfla (by simp))).trans ((va_up_ne _ _ (ne_k (hfms 1 (by decide)) hftx (by simp))).trans (hfms 1 (by decide))))))); exact ((va_up_ne _ _ (ne_k (hfms 2 (by decide)) (hfmr 2 (by decide)) (by simp))).trans ((va_up_ne _ _ (ne_k (hfms 2 (by decide)) (hfmr 1 (by decide)) (by simp))).trans ((va_up_ne _ _ (ne_k (hfms 2 (by decide)) (hfmr 0 (by decide)) (by simp))).trans ((va_up_ne _ _ (ne_k (hfms 2 (by decide)) hfla (by simp))).trans ((va_up_ne _ _ (ne_k (hfms 2 (by decide)) hftx (by simp))).trans (hfms 2 (by decide))))))); exact ((va_up_ne _ _ (ne_k (hfms 3 (by decide)) (hfmr 2 (by decide)) (by simp))).trans ((va_up_ne _ _ (ne_k (hfms 3 (by decide)) (hfmr 1 (by decide)) (by simp))).trans ((va_up_ne _ _ (ne_k (hfms 3 (by decide)) (hfmr 0 (by decide)) (by simp))).trans ((va_up_ne _ _ (ne_k (hfms 3 (by decide)) hfla (by simp))).trans ((va_up_ne _ _ (ne_k (hfms 3 (by decide)) hftx (by simp))).trans (hfms 3 (by decide)))))))) (fun j9 h9 => by rcases (show j9 = 0 ∨ j9 = 1 ∨ j9 = 2 ∨ j9 = 3 by omega) with rfl | rfl | rfl | rfl; exact (hmr 0 (by decide)); exact (hmr 1 (by decide)); exact (hmr 2 (by decide)); exact (hmr 3 (by decide))) (fun j9 h9 => by rcases (show j9 = 0 ∨ j9 = 1 ∨ j9 = 2 ∨ j9 = 3 by omega) with rfl | rfl | rfl | rfl; exact ((va_up_ne _ _ (fun e9 => absurd (hinj 0 2 (by decide) (by decide) e9) (by decide))).trans ((va_up_ne _ _ (fun e9 => absurd (hinj 0 1 (by decide) (by decide) e9) (by decide))).trans (va_up_self _ _ _))); exact ((va_up_ne _ _ (fun e9 => absurd (hinj 1 2 (by decide) (by decide) e9) (by decide))).trans (va_up_self _ _ _)); exact (va_up_self _ _ _); exact ((va_up_ne _ _ (fun e9 => absurd (hinj 3 2 (by decide) (by decide) e9) (by decide))).trans ((va_up_ne _ _ (fun e9 => absurd (hinj 3 1 (by decide) (by decide) e9) (by decide))).trans ((va_up_ne _ _ (fun e9 => absurd (hinj 3 0 (by decide) (by decide) e9) (by decide))).trans ((va_up_ne _ _ (Ne.symm (hlm 3 (by decide)))).trans ((va_up_ne _ _ (ne_k (hfmr 3 (by decide)) hftx (by simp))).trans (hfmr 3 (by decide)))))))) hinj hlm (((0 + 1) + 1) + 1) (by omega)) (cwV 1 hts gX8_take_X8_marksOf rfl rfl rfl (by decide +kernel) ⟨Nat.le_of_ble_eq_true rfl, Nat.le_of_ble_eq_true rfl⟩) (rc_preV hC hP (pl_recv hK hP htx ((va_up_ne _ _ (ne_k hftx (hfmr 2 (by decide)) (by simp))).trans ((va_up_ne _ _ (ne_k hftx (hfmr 1 (by decide)) (by simp))).trans ((va_up_ne _ _ (ne_k hftx (hfmr 0 (by decide)) (by simp))).trans ((va_up_ne _ _ (ne_k hftx hfla (by simp))).trans (va_up_self _ _ _))))) (ci := 7) (q := (RX8, TX8, 3)) rfl)) rfl rfl hl.1 rfl (lv_room (Nat.le_of_ble_eq_true rfl)) dX8_take_70 ⟨Nat.zero_le _, Nat.zero_le _⟩)) (fun r13 hr13 => ?_)
                subst hr13
                refine lv_iload_n hx hb dX8_take_73 rfl (lv_at hl 2 rfl) ?_
                refine pc_callv (va_runV (As := [.int (zI (z))]) (rest := []) ⟨hx, hb, hml, hown, hts⟩ (kX6_closeAt l D k L (va_up (va_up (va_up (va_up (va_up f tx (.inr (7, [.ref la, .ref ma, .int (zI (n - 1))]))) la (.inl (k 0, 24, .inl (shD T z (n - 1))))) (mr 0) (.inl (k 0, 24, .inl (fa_fill (clF ((R 0)) z) ((R 0)) 24)))) (mr 1) (.inl (k 0, 24, .inl (fa_fill (clF ((R 1)) z) ((R 1)) 24)))) (mr 2) (.inl (k 0, 24, .inl (fa_fill (clF ((R 2)) z) ((R 2)) 24)))) (ms 3) (mr 3) ((R 3)) (hms 3 (by decide)) ((va_up_ne _ _ (ne_k (hfms 3 (by decide)) (hfmr 2 (by decide)) (by simp))).trans ((va_up_ne _ _ (ne_k (hfms 3 (by decide)) (hfmr 1 (by decide)) (by simp))).trans ((va_up_ne _ _ (ne_k (hfms 3 (by decide)) (hfmr 0 (by decide)) (by simp))).trans ((va_up_ne _ _ (ne_k (hfms 3 (by decide)) hfla (by simp))).trans ((va_up_ne _ _ (ne_k (hfms 3 (by decide)) hftx (by simp))).trans (hfms 3 (by decide))))))) (hmr 3 (by decide)) ((va_up_ne _ _ (fun e9 => absurd (hinj 3 2 (by decide) (by decide) e9) (by decide))).trans ((va_up_ne _ _ (fun e9 => absurd (hinj 3 1 (by decide) (by decide) e9) (by decide))).trans ((va_up_ne _ _ (fun e9 => absurd (hinj 3 0 (by decide) (by decide) e9) (by decide))).trans ((va_up_ne _ _ (Ne.symm (hlm 3 (by decide)))).trans ((va_up_ne _ _ (ne_k (hfmr 3 (by decide)) hftx (by simp))).trans (hfmr 3 (by decide))))))) (z) (by omega) n0 _) (cwV 1 hts gX8_take_X6_closeAt rfl rfl rfl (by decide +kernel) ⟨Nat.le_of_ble_eq_true rfl, Nat.le_of_ble_eq_true rfl⟩) (pc_preV hC hP (Nat.le_trans hn9 hS.1) hD hAn (pl_recv hK hP (hms 3 (by decide)) ((va_up_ne _ _ (ne_k (hfms 3 (by decide)) (hfmr 2 (by decide)) (by simp))).trans ((va_up_ne _ _ (ne_k (hfms 3 (by decide)) (hfmr 1 (by decide)) (by simp))).trans ((va_up_ne _ _ (ne_k (hfms 3 (by decide)) (hfmr 0 (by decide)) (by simp))).trans ((va_up_ne _ _ (ne_k (hfms 3 (by decide)) hfla (by simp))).trans ((va_up_ne _ _ (ne_k (hfms 3 (by decide)) hftx (by simp))).trans (hfms 3 (by decide))))))) (ci := 5) (q := (RX6, TX6, 1)) rfl)) rfl rfl hl.1 rfl (lv_room (Nat.le_of_ble_eq_true rfl)) dX8_take_74 ⟨Nat.zero_le _, Nat.zero_le _⟩) hD hS hA (fun ur14 H locs hr14 hP hD hS hzr14 => ?_)
                subst hr14
                have hP : va_P D vwCl (va_pl L (va_up (va_up (va_up (va_up (va_up (va_up f tx (.inr (7, [.ref la, .ref ma, .int (zI (n - 1))]))) la (.inl (k 0, 24, .inl (shD T z (n - 1))))) (mr 0) (.inl (k 0, 24, .inl (fa_fill (clF ((R 0)) z) ((R 0)) 24)))) (mr 1) (.inl (k 0, 24, .inl (fa_fill (clF ((R 1)) z) ((R 1)) 24)))) (mr 2) (.inl (k 0, 24, .inl (fa_fill (clF ((R 2)) z) ((R 2)) 24)))) (mr 3) (.inl (k 0, 24, .inl (fa_fill (clF ((R 3)) z) ((R 3)) 24))))) H := hP
                have hD : va_D A (va_pl L (va_up (va_up (va_up (va_up (va_up (va_up f tx (.inr (7, [.ref la, .ref ma, .int (zI (n - 1))]))) la (.inl (k 0, 24, .inl (shD T z (n - 1))))) (mr 0) (.inl (k 0, 24, .inl (fa_fill (clF ((R 0)) z) ((R 0)) 24)))) (mr 1) (.inl (k 0, 24, .inl (fa_fill (clF ((R 1)) z) ((R 1)) 24)))) (mr 2) (.inl (k 0, 24, .inl (fa_fill (clF ((R 2)) z) ((R 2)) 24)))) (mr 3) (.inl (k 0, 24, .inl (fa_fill (clF ((R 3)) z) ((R 3)) 24))))) := hD
                refine zr_iinc (k := 0) (lv' := [(3, .int (zI ((((0 + 1) + 1) + 1) + 1))), (0, .ref tx), (1, .int (zI (z))), (2, .int (T (z).toNat))]) hx hb dX8_take_77 hl rfl (by decide) rfl (fun ls hl => ?_)
                refine lv_goto (tgt := 59) hx hb dX8_take_80 (by decide) ?_
                refine lv_iload_n hx hb dX8_take_59 rfl (lv_at hl 0 rfl) ?_
                refine lv_aload_n hx hb dX8_take_60 rfl (lv_at hl 1 rfl) ?_
                refine pl_get (ci := 7) (v := .ref ma) (C := RX8) (T := TX8) (N := 3) hx hb hts hi_X8 hown hK hP htx ((va_up_ne _ _ (ne_k hftx (hfmr 3 (by decide)) (by simp))).trans ((va_up_ne _ _ (ne_k hftx (hfmr 2 (by decide)) (by simp))).trans ((va_up_ne _ _ (ne_k hftx (hfmr 1 (by decide)) (by simp))).trans ((va_up_ne _ _ (ne_k hftx (hfmr 0 (by decide)) (by simp))).trans ((va_up_ne _ _ (ne_k hftx hfla (by simp))).trans (va_up_self _ _ _)))))) rfl 1 (by decide) hw_1 (fun _ h9 => h9) rfl dX8_take_61 ?_
                refine pl_alen (ty := .object RX6) hx hb hK hP hma 3 ((va_up_ne _ _ (ne_k hfma (hfmr 3 (by decide)) (by simp))).trans ((va_up_ne _ _ (ne_k hfma (hfmr 2 (by decide)) (by simp))).trans ((va_up_ne _ _ (ne_k hfma (hfmr 1 (by decide)) (by simp))).trans ((va_up_ne _ _ (ne_k hfma (hfmr 0 (by decide)) (by simp))).trans ((va_up_ne _ _ (ne_k hfma hfla (by simp))).trans ((va_up_ne _ _ (ne_k hfma hftx (by simp))).trans hfma)))))) rfl (4) rfl dX8_take_64 ?_
                refine zr_icmp_ge (tgt := 83) hx hb dX8_take_65 (by decide) (by omega) (by omega) (fun c15 => ?_) (fun c15 => ?_)
                · refine lv_iload_n hx hb dX8_take_83 rfl (lv_at hl 3 rfl) ?_
                  rw [hQ]
                  exact pc_iret hx hb hrt hP (by rw [← hAd]; exact hD) (by rw [← hAd]; exact hS) (⟨rfl, _, rfl, ((va_up_ne _ _ (ne_k hftx (hfmr 3 (by decide)) (by simp))).trans ((va_up_ne _ _ (ne_k hftx (hfmr 2 (by decide)) (by simp))).trans ((va_up_ne _ _ (ne_k hftx (hfmr 1 (by decide)) (by simp))).trans ((va_up_ne _ _ (ne_k hftx (hfmr 0 (by decide)) (by simp))).trans ((va_up_ne _ _ (ne_k hftx hfla (by simp))).trans (va_up_self _ _ _)))))), ((va_up_ne _ _ (hlm 3 (by decide))).trans ((va_up_ne _ _ (hlm 2 (by decide))).trans ((va_up_ne _ _ (hlm 1 (by decide))).trans ((va_up_ne _ _ (hlm 0 (by decide))).trans (va_up_self _ _ _))))), (fun i9 hi9 => by rcases (show i9 = 0 ∨ i9 = 1 ∨ i9 = 2 ∨ i9 = 3 by omega) with rfl | rfl | rfl | rfl; exact ((va_up_ne _ _ (fun e9 => absurd (hinj 0 3 (by decide) (by decide) e9) (by decide))).trans ((va_up_ne _ _ (fun e9 => absurd (hinj 0 2 (by decide) (by decide) e9) (by decide))).trans ((va_up_ne _ _ (fun e9 => absurd (hinj 0 1 (by decide) (by decide) e9) (by decide))).trans (va_up_self _ _ _)))); exact ((va_up_ne _ _ (fun e9 => absurd (hinj 1 3 (by decide) (by decide) e9) (by decide))).trans ((va_up_ne _ _ (fun e9 => absurd (hinj 1 2 (by decide) (by decide) e9) (by decide))).trans (va_up_self _ _ _))); exact ((va_up_ne _ _ (fun e9 => absurd (hinj 2 3 (by decide) (by decide) e9) (by decide))).trans (va_up_self _ _ _)); exact (va_up_self _ _ _)), fun a9 h1 h2 h3 => ((va_up_ne _ _ (h3 3 (by decide))).trans ((va_up_ne _ _ (h3 2 (by decide))).trans ((va_up_ne _ _ (h3 1 (by decide))).trans ((va_up_ne _ _ (h3 0 (by decide))).trans ((va_up_ne _ _ h2).trans ((va_up_ne _ _ h1).trans rfl))))))⟩) dX8_take_84 hlocks
                · exact absurd c15 (by omega)
      · refine lv_iload_n hx hb dX8_take_26 rfl (lv_at hl 3 rfl) ?_
        refine zr_const hx hb dX8_take_27 ?_
        refine zr_add hx hb dX8_take_28 ?_
        refine lv_aload_n hx hb dX8_take_29 rfl (lv_at hl 0 rfl) ?_
        refine pl_get (ci := 7) (v := .ref la) (C := RX8) (T := TX8) (N := 3) hx hb hts hi_X8 hown hK hP htx ((va_up_ne _ _ (ne_k hftx hfla (by simp))).trans (va_up_self _ _ _)) rfl 0 (by decide) hw_2 (fun _ h9 => h9) rfl dX8_take_30 ?_
        refine pl_alen (ty := .int) hx hb hK hP hla 0 (va_up_self _ _ _) rfl (24) rfl dX8_take_33 ?_
        refine zr_icmp_ge (tgt := 57) hx hb dX8_take_34 (by decide) (by omega) (by omega) (fun c16 => ?_) (fun c16 => ?_)
        · exfalso; omega
        · refine lv_aload_n hx hb dX8_take_37 rfl (lv_at hl 0 rfl) ?_
          refine pl_get (ci := 7) (v := .ref la) (C := RX8) (T := TX8) (N := 3) hx hb hts hi_X8 hown hK hP htx ((va_up_ne _ _ (ne_k hftx hfla (by simp))).trans (va_up_self _ _ _)) rfl 0 (by decide) hw_2 (fun _ h9 => h9) rfl dX8_take_38 ?_
          refine lv_iload_n hx hb dX8_take_41 rfl (lv_at hl 3 rfl) ?_
          refine lv_aload_n hx hb dX8_take_42 rfl (lv_at hl 0 rfl) ?_
          refine pl_get (ci := 7) (v := .ref la) (C := RX8) (T := TX8) (N := 3) hx hb hts hi_X8 hown hK hP htx ((va_up_ne _ _ (ne_k hftx hfla (by simp))).trans (va_up_self _ _ _)) rfl 0 (by decide) hw_2 (fun _ h9 => h9) rfl dX8_take_43 ?_
          refine lv_iload_n hx hb dX8_take_46 rfl (lv_at hl 3 rfl) ?_
          refine zr_const hx hb dX8_take_47 ?_
          refine zr_add hx hb dX8_take_48 ?_
          refine pl_iald hx hb hK hP hla 0 (va_up_self _ _ _) rfl ((z3 + 1).toNat) (by omega) (by omega) (by decide) dX8_take_49 ?_
          refine pl_iast (x := (((shD T z z3)) ((z3 + 1).toNat))) hx hb hK hP hD hS hla 0 (va_up_self _ _ _) rfl ((z3).toNat) (by omega) (by omega) (by decide) dX8_take_50 (fun H locs hP hD hS => ?_)
          rw [bx_uu] at hP hD
          have hP : va_P D vwCl (va_pl L (va_up (va_up f tx (.inr (7, [.ref la, .ref ma, .int (zI (n - 1))]))) la (.inl (k 0, 24, .inl (upd ((shD T z z3)) ((z3).toNat) (((shD T z z3)) ((z3 + 1).toNat))))))) H := hP
          have hD : va_D A (va_pl L (va_up (va_up f tx (.inr (7, [.ref la, .ref ma, .int (zI (n - 1))]))) la (.inl (k 0, 24, .inl (upd ((shD T z z3)) ((z3).toNat) (((shD T z z3)) ((z3 + 1).toNat))))))) := hD
          refine zr_iinc (k := 3) (lv' := [(3, .int (zI (z3 + 1))), (0, .ref tx), (1, .int (zI (z))), (2, .int (T (z).toNat))]) hx hb dX8_take_51 hl rfl (by decide) rfl (fun ls hl => ?_)
          refine lv_goto (tgt := 18) hx hb dX8_take_54 (by decide) ?_
          have hg9 : ((upd ((shD T z z3)) ((z3).toNat) (((shD T z z3)) ((z3 + 1).toNat))) : Nat → Int32) = shD T z (z3 + 1) := by exact shD_s (by omega)
          rw [hg9] at hP hD
          exact ih_18 (z3 + 1) (by omega) (by omega) _ _ hP hD hS _ (lv_sub hl [1, 2, 3, 0] rfl)
  rw [← up_id (a := la) ((va_up_ne _ _ (ne_k hfla hftx (by simp))).trans hfla)] at hP hD
  have hg9 : (T : Nat → Int32) = shD T z (z) := by exact (shD_0 T z).symm
  rw [hg9] at hP hD
  exact cut_18 ((n - (z) : Int).toNat + 1) (z) (by omega) (by omega) _ _ hP hD hS _ (lv_sub hl [2, 3, 1, 0] rfl)

set_option maxHeartbeats 4000000 in
set_option maxRecDepth 100000 in
theorem kX8_take_x (l : Launch) (D : va_G) (k : Nat → ClassId) (L : List Nat) (f : Nat → va_E) (tx la ma : Nat) (n : Int) (T : Nat → Int32) (htx : tx ∈ L) (hftx : f tx = .inr (7, [.ref la, .ref ma, .int (zI n)])) (hla : la ∈ L) (hfla : f la = .inl (k 0, 24, .inl T)) (hn : 0 ≤ n ∧ n ≤ 24) (z : Int) (hz : -2147483648 ≤ z ∧ z < 2147483648) (hz2 : ¬ (0 ≤ z ∧ z < n)) (hlt : l.stackTraces = false) (n0 sz : Nat) : vx_Met l yX8_take wsX8_take ({ frames := 7, cells := 1, slots := 6, locals := 103 } : Room) (va_Pc [.ref tx, .int (zI (z))] (xPre D (tyL k) n0 (va_pl L f) sz)) (va_Qv (fun _ => False) (pB D (va_pl L f) sz) (va_A (va_pl L f) sz)) (xX D (va_pl L f) sz (fun E u => E = "java/lang/IndexOutOfBoundsException" ∧ u = va_pl L f)) 1 6 (va_A (va_pl L f) sz) := by
  refine vx_ofW (cc := cX8_take) (maxL := 4) (ret := (some .int)) (by decide) rfl ?_
  intro p e s m args below meth c s₁ B hml hno hv
  obtain ⟨rfl, ⟨hsz, hn9, hP, hC, hD0⟩, hX⟩ := hv
  have hK := hC.1
  have hNW := hC.2.1
  have hx := B.exec
  have hb := B.bytes
  have hrt := B.returns
  have hts := atoms_spec (ws := wsX8_take) B.pre
  have hown : s.vm.findClass RX8 = some m.cls := findClass_of_methodNamed B.named
  have hlocks := B.notSynchronized
  subst hsz
  obtain ⟨A, hAd⟩ : ∃ A, A = va_A (va_pl L f) s.heap.size := ⟨_, rfl⟩
  have hD := hD0.self (sz := s.heap.size)
  rw [← hAd] at hD
  have hA : ∀ q : Nat, s.heap.size ≤ q → A q := fun q h => by rw [hAd]; exact Or.inr h
  have hAn : ∀ q : Nat, A q → n0 ≤ q := fun q h => by
    rw [hAd] at h
    rcases h with ⟨k9, e9, hk9⟩ | h
    · exact hD0.2 k9 _ hk9
    · exact Nat.le_trans hn9 h
  have hS : va_S A s.heap s.heap [] := va_S.rf
  have hl := lv_entry ([.ref tx, .int (zI (z))]) (n := 4) (Nat.le_of_ble_eq_true rfl)
  rw [lg_entry_eq]
  generalize (lg_sl ([.ref tx, .int (zI (z))]) ++ List.replicate (4 - (lg_sl ([.ref tx, .int (zI (z))])).length) Slot.unset).toArray = ls at hl ⊢
  have hl : lv_has ls 4 [(0, .ref tx), (1, .int (zI (z)))] := hl
  obtain ⟨Q, hQ⟩ : ∃ Q, Q = vx_MQ below (va_Qv (fun _ => False) (pB D (va_pl L f) s.heap.size) (va_A (va_pl L f) s.heap.size)) (xX D (va_pl L f) s.heap.size (fun E u => E = "java/lang/IndexOutOfBoundsException" ∧ u = va_pl L f)) ([.ref tx, .int (zI (z))] : List Value).toArray s 1 6 (va_A (va_pl L f) s.heap.size) := ⟨_, rfl⟩
  rw [← hQ]
  refine lv_aload_n hx hb dX8_take_0 rfl (lv_at hl 0 rfl) ?_
  refine lv_iload_n hx hb dX8_take_1 rfl (lv_at hl 1 rfl) ?_
  rw [hQ]
  exact px_outv (vx_runV (As := [.int (zI (z))]) (rest := []) ⟨hx, hb, hml, hown, hts⟩ (kX8_letterOf_x l D k L f tx la ma n T htx hftx hla hfla (by omega) z hz hz2 hlt n0 _) (cwV 1 hts gX8_take_X8_letterOf rfl rfl rfl (by decide +kernel) ⟨Nat.le_of_ble_eq_true rfl, Nat.le_of_ble_eq_true rfl⟩) (xc_preV hC hX hP (Nat.le_trans hn9 hS.1) hD hS hAn (pl_recv hK hP htx hftx (ci := 7) (q := (RX8, TX8, 3)) rfl)) rfl rfl hl.1 rfl (lv_room (Nat.le_of_ble_eq_true rfl)) dX8_take_2 ⟨Nat.le_of_ble_eq_true rfl, Nat.le_of_ble_eq_true rfl⟩) (by rw [← hAd]; exact hD) (by rw [← hAd]; exact hS) hlocks hno (Nat.le_of_ble_eq_true rfl) (Nat.le_of_ble_eq_true rfl) (fun E u h => h)
