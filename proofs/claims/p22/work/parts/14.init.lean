set_option maxHeartbeats 4000000 in
set_option maxRecDepth 100000 in
theorem kX6_init (l : Launch) (D : va_G) (k : Nat → ClassId) (L : List Nat) (f : Nat → va_E) (h : Nat) (hh : h ∈ L) (hfh : f h = .inr (5, [.null])) (n0 sz : Nat) : Met l yX6_init wsX6_init ({ frames := 1, cells := 1, slots := 24, locals := 12 } : Room) (va_Pc [.ref h] (pPre D (tyL k) n0 (va_pl L f) sz)) (va_Qv (fun u => ∃ q, q ∉ L ∧ ∃ F, u = va_pl (L ++ [q]) F ∧ F h = .inr (5, [.ref q]) ∧ F q = .inl (k 0, 24, .inl (fun _ => 0)) ∧ ∀ a, a ∈ L → a ≠ h → F a = f a) (pB D (va_pl L f) sz) (va_A (va_pl L f) sz)) 1 24 (va_A (va_pl L f) sz) := by
  refine Met.ofW (cc := cX6_init) (maxL := 1) (ret := none) (by decide) rfl ?_
  intro p e s m args below meth c s₁ B hml hv
  obtain ⟨rfl, hsz, hn9, hP, hC, hD0⟩ := hv
  have hK := hC.1
  have hNW := hC.2.1
  have hx := B.exec
  have hb := B.bytes
  have hrt := B.returns
  have hts := atoms_spec (ws := wsX6_init) B.pre
  have hown : s.vm.findClass RX6 = some m.cls := findClass_of_methodNamed B.named
  have hlocks := B.notSynchronized
  have hin9 : meth.name = "<init>" := (name_of_methodNamed B.named B.method).1
  subst hsz
  obtain ⟨A, hAd⟩ : ∃ A, A = va_A (va_pl L f) s.heap.size := ⟨_, rfl⟩
  have hD := hD0.self (sz := s.heap.size)
  rw [← hAd] at hD
  have hA : ∀ q : Nat, s.heap.size ≤ q → A q := fun q h => by rw [hAd]; exact Or.inr h
  have hAn : ∀ q : Nat, A q → n0 ≤ q := fun q h => by
    rw [hAd] at h
    rcases h with ⟨k9, e9, hk9⟩ | h
    · exact hD0.2 k9 _ hk9
    · exact Nat.le_trans hn9 h
  have hS : va_S A s.heap s.heap [] := va_S.rf
  have hi_X6 : ∀ w ∈ u_ws RX6 TX6 1, w ∈ wsX6_init := by decide +kernel
  have hw_0 := hts (.methodLink RX6 3 objectInit) (by decide +kernel)
  have hw_1 := hts (.instanceMethod objectInit) (by decide +kernel)
  have hw_2 := hts (.code objectInit ⟨#[0xb1]⟩ 1 none) (by decide +kernel)
  have hw_3 := hts (.arrayClass .int) (by decide +kernel)
  have hw_4 := hts (.fieldLink RX6 9 "Regionry$RegionSet" "rows" "[I") (by decide +kernel)
  have hl := lv_entry ([.ref h]) (n := 1) (Nat.le_of_ble_eq_true rfl)
  rw [lg_entry_eq]
  generalize (lg_sl ([.ref h]) ++ List.replicate (1 - (lg_sl ([.ref h])).length) Slot.unset).toArray = ls at hl ⊢
  have hl : lv_has ls 1 [(0, .ref h)] := hl
  obtain ⟨Q, hQ⟩ : ∃ Q, Q = MQ below (va_Qv (fun u => ∃ q, q ∉ L ∧ ∃ F, u = va_pl (L ++ [q]) F ∧ F h = .inr (5, [.ref q]) ∧ F q = .inl (k 0, 24, .inl (fun _ => 0)) ∧ ∀ a, a ∈ L → a ≠ h → F a = f a) (pB D (va_pl L f) s.heap.size) (va_A (va_pl L f) s.heap.size)) ([.ref h] : List Value).toArray s 1 24 (va_A (va_pl L f) s.heap.size) := ⟨_, rfl⟩
  rw [← hQ]
  refine lv_aload_n hx hb dX6_init_0 rfl (lv_at hl 0 rfl) ?_
  refine W.objInit hx hb hown hw_0 hw_1 hw_2 rfl (by rw [hml]; exact hl.1) rfl dX6_init_1 (Nat.le_of_ble_eq_true rfl) (Nat.le_of_ble_eq_true rfl) ?_
  refine W.eq (g2 := F0 m 4 ls []) rfl ?_
  refine lv_aload_n hx hb dX6_init_4 rfl (lv_at hl 0 rfl) ?_
  refine zr_bipush hx hb dX6_init_5 (by decide) ?_
  refine pl_newi hx hb hw_3 0 rfl hK hP hD hS hA 24 rfl (by decide) (Nat.le_of_ble_eq_true rfl) (Nat.le_of_ble_eq_true rfl) dX6_init_7 (fun q1 H hq1 hP hD hS => ?_)
  have hP : va_P D vwCl (va_pl (L ++ [q1]) (va_up f q1 (.inl (k 0, 24, .inl (fun _ => 0))))) H := hP
  have hD : va_D A (va_pl (L ++ [q1]) (va_up f q1 (.inl (k 0, 24, .inl (fun _ => 0))))) := hD
  refine pl_putF (ci := 5) (v := .ref q1) (ty := .array .int) (C := RX6) (T := TX6) (N := 1) hx hb hts hi_X6 tyX6 tyX6_ok nmX6 hown hK hP hD hS (List.mem_append_left _ hh) ((va_up_ne _ _ (ne_new hh hq1)).trans hfh) rfl 0 (by decide) hw_4 (fun _ h9 => h9) rfl hin9 rfl (by decide +kernel) rfl rfl (Nat.le_of_ble_eq_true rfl) dX6_init_9 (fun H locs hP hD hS => ?_)
  have hP : va_P D vwCl (va_pl (L ++ [q1]) (va_up (va_up f q1 (.inl (k 0, 24, .inl (fun _ => 0)))) h (.inr (5, [.ref q1])))) H := hP
  have hD : va_D A (va_pl (L ++ [q1]) (va_up (va_up f q1 (.inl (k 0, 24, .inl (fun _ => 0)))) h (.inr (5, [.ref q1])))) := hD
  rw [hQ]
  exact pc_vret hx hb hrt hP (by rw [← hAd]; exact hD) (by rw [← hAd]; exact hS) (⟨q1, hq1, _, rfl, (va_up_self _ _ _), ((va_up_ne _ _ (Ne.symm (ne_new hh hq1))).trans (va_up_self _ _ _)), fun a9 ha9 hne9 => ((va_up_ne _ _ hne9).trans ((va_up_ne _ _ (ne_new ha9 hq1)).trans rfl))⟩) dX6_init_12 hlocks

set_option maxHeartbeats 4000000 in
set_option maxRecDepth 100000 in
theorem kX0_init (l : Launch) (D : va_G) (k : Nat → ClassId) (L : List Nat) (f : Nat → va_E) (h ci : Nat) (rest : List Value) (hc : exC ci) (hh : h ∈ L) (hfh : f h = .inr (ci, .int 0 :: .int 0 :: .null :: .null :: rest)) (z1 : Int) (hz1 : 0 ≤ z1 ∧ z1 ≤ 30) (z2 : Int) (hz2 : -1000 ≤ z2 ∧ z2 ≤ 1000) (x3 : Int32) (n0 sz : Nat) : Met l yX0_init wsX0_init ({ frames := 2, cells := 4, slots := 50, locals := 32 } : Room) (va_Pc [.ref h, .int (zI (z1)), .int (zI (z2)), .int (x3)] (pPre D (tyL k) n0 (va_pl L f) sz)) (va_Qv (fun u => ∃ q1, q1 ∉ L ∧ ∃ r1, r1 ∉ (L ++ [q1]) ∧ ∃ q2, q2 ∉ (L ++ [q1] ++ [r1]) ∧ ∃ r2, r2 ∉ (L ++ [q1] ++ [r1] ++ [q2]) ∧ ∃ F, u = va_pl (L ++ [q1] ++ [r1] ++ [q2] ++ [r2]) F ∧ F h = .inr (ci, .int (zI z2) :: .int (x3 ||| pw z1.toNat) :: .ref q1 :: .ref q2 :: rest) ∧ F q1 = .inr (5, [.ref r1]) ∧ F r1 = .inl (k 0, 24, .inl (fun _ => 0)) ∧ F q2 = .inr (5, [.ref r2]) ∧ F r2 = .inl (k 0, 24, .inl (fun _ => 0)) ∧ ∀ a, a ∈ L → a ≠ h → F a = f a) (pB D (va_pl L f) sz) (va_A (va_pl L f) sz)) 4 50 (va_A (va_pl L f) sz) := by
  refine Met.ofW (cc := cX0_init) (maxL := 4) (ret := none) (by decide) rfl ?_
  intro p e s m args below meth c s₁ B hml hv
  obtain ⟨rfl, hsz, hn9, hP, hC, hD0⟩ := hv
  have hK := hC.1
  have hNW := hC.2.1
  have hx := B.exec
  have hb := B.bytes
  have hrt := B.returns
  have hts := atoms_spec (ws := wsX0_init) B.pre
  have hown : s.vm.findClass RX0 = some m.cls := findClass_of_methodNamed B.named
  have hlocks := B.notSynchronized
  have hin9 : meth.name = "<init>" := (name_of_methodNamed B.named B.method).1
  subst hsz
  obtain ⟨A, hAd⟩ : ∃ A, A = va_A (va_pl L f) s.heap.size := ⟨_, rfl⟩
  have hD := hD0.self (sz := s.heap.size)
  rw [← hAd] at hD
  have hA : ∀ q : Nat, s.heap.size ≤ q → A q := fun q h => by rw [hAd]; exact Or.inr h
  have hAn : ∀ q : Nat, A q → n0 ≤ q := fun q h => by
    rw [hAd] at h
    rcases h with ⟨k9, e9, hk9⟩ | h
    · exact hD0.2 k9 _ hk9
    · exact Nat.le_trans hn9 h
  have hS : va_S A s.heap s.heap [] := va_S.rf
  have hi_X6 : ∀ w ∈ u_ws RX6 TX6 1, w ∈ wsX0_init := by decide +kernel
  have hi_X1 : ∀ w ∈ u_ws RX1 TX1 5, w ∈ wsX0_init := by decide +kernel
  have hi_X2 : ∀ w ∈ u_ws RX2 TX2 5, w ∈ wsX0_init := by decide +kernel
  have hi_X3 : ∀ w ∈ u_ws RX3 TX3 7, w ∈ wsX0_init := by decide +kernel
  have hi_X4 : ∀ w ∈ u_ws RX4 TX4 6, w ∈ wsX0_init := by decide +kernel
  have hi_X5 : ∀ w ∈ u_ws RX5 TX5 7, w ∈ wsX0_init := by decide +kernel
  have hi_X7 : ∀ w ∈ u_ws RX7 TX7 7, w ∈ wsX0_init := by decide +kernel
  have hw_0 := hts (.methodLink RX0 1 objectInit) (by decide +kernel)
  have hw_1 := hts (.instanceMethod objectInit) (by decide +kernel)
  have hw_2 := hts (.code objectInit ⟨#[0xb1]⟩ 1 none) (by decide +kernel)
  have hw_3 := hts (.classLink RX0 7 RX6) (by decide +kernel)
  have hw_4 := hts (.instantiable RX6 1) (by decide +kernel)
  have hw_5 := hts (.initialized RX6) (by decide +kernel)
  have hw_6 := hts (.instanceMethod yX6_init) (by decide +kernel)
  have hw_7 := hts (.fieldLink RX0 10 "Regionry$Expression" "gathered" "LRegionry$RegionSet;") (by decide +kernel)
  have hw_8 := hts (.fieldLink RX0 16 "Regionry$Expression" "asked" "LRegionry$RegionSet;") (by decide +kernel)
  have hw_9 := hts (.fieldLink RX0 19 "Regionry$Expression" "depth" "I") (by decide +kernel)
  have hw_10 := hts (.fieldLink RX0 23 "Regionry$Expression" "needed" "I") (by decide +kernel)
  have hl := lv_entry ([.ref h, .int (zI (z1)), .int (zI (z2)), .int (x3)]) (n := 4) (Nat.le_of_ble_eq_true rfl)
  rw [lg_entry_eq]
  generalize (lg_sl ([.ref h, .int (zI (z1)), .int (zI (z2)), .int (x3)]) ++ List.replicate (4 - (lg_sl ([.ref h, .int (zI (z1)), .int (zI (z2)), .int (x3)])).length) Slot.unset).toArray = ls at hl ⊢
  have hl : lv_has ls 4 [(0, .ref h), (1, .int (zI (z1))), (2, .int (zI (z2))), (3, .int (x3))] := hl
  obtain ⟨Q, hQ⟩ : ∃ Q, Q = MQ below (va_Qv (fun u => ∃ q1, q1 ∉ L ∧ ∃ r1, r1 ∉ (L ++ [q1]) ∧ ∃ q2, q2 ∉ (L ++ [q1] ++ [r1]) ∧ ∃ r2, r2 ∉ (L ++ [q1] ++ [r1] ++ [q2]) ∧ ∃ F, u = va_pl (L ++ [q1] ++ [r1] ++ [q2] ++ [r2]) F ∧ F h = .inr (ci, .int (zI z2) :: .int (x3 ||| pw z1.toNat) :: .ref q1 :: .ref q2 :: rest) ∧ F q1 = .inr (5, [.ref r1]) ∧ F r1 = .inl (k 0, 24, .inl (fun _ => 0)) ∧ F q2 = .inr (5, [.ref r2]) ∧ F r2 = .inl (k 0, 24, .inl (fun _ => 0)) ∧ ∀ a, a ∈ L → a ≠ h → F a = f a) (pB D (va_pl L f) s.heap.size) (va_A (va_pl L f) s.heap.size)) ([.ref h, .int (zI (z1)), .int (zI (z2)), .int (x3)] : List Value).toArray s 4 50 (va_A (va_pl L f) s.heap.size) := ⟨_, rfl⟩
  rw [← hQ]
  refine lv_aload_n hx hb dX0_init_0 rfl (lv_at hl 0 rfl) ?_
  refine W.objInit hx hb hown hw_0 hw_1 hw_2 rfl (by rw [hml]; exact hl.1) rfl dX0_init_1 (Nat.le_of_ble_eq_true rfl) (Nat.le_of_ble_eq_true rfl) ?_
  refine W.eq (g2 := F0 m 4 ls []) rfl ?_
  refine lv_aload_n hx hb dX0_init_4 rfl (lv_at hl 0 rfl) ?_
  refine pl_obj (ci := 5) (fs := [.null]) (C := RX6) (T := TX6) (N := 1) hx hb hts hi_X6 tyX6 tyX6_ok hown hw_3 hw_4 hw_5 hK hP hD hS hA rfl (fun j hj => by rcases (show j = 0 by omega) with rfl <;> rfl) (Nat.le_of_ble_eq_true rfl) (Nat.le_of_ble_eq_true rfl) dX0_init_5 (fun q1 H hq1 hP hD hS => ?_)
  have hP : va_P D vwCl (va_pl (L ++ [q1]) (va_up f q1 (.inr (5, [.null])))) H := hP
  have hD : va_D A (va_pl (L ++ [q1]) (va_up f q1 (.inr (5, [.null])))) := hD
  refine lv_dup hx hb dX0_init_8 rfl ?_
  refine pc_callv (va_runIN (As := []) (rest := [.ref q1, .ref h]) ⟨hx, hb, hml, hown, hts⟩ (kX6_init l D k (L ++ [q1]) (va_up f q1 (.inr (5, [.null]))) q1 (List.mem_append_right _ (List.mem_singleton.mpr rfl)) (va_up_self _ _ _) n0 _) ⟨va_cnB 0 hts gX0_init_X6_init_n9 rfl rfl rfl (hNW (.methodLinkNest RX0 9 yX6_init "Regionry") (by decide +kernel)) hw_5 (by decide +kernel) ⟨Nat.le_of_ble_eq_true rfl, Nat.le_of_ble_eq_true rfl⟩, rfl, hw_6⟩ (pc_preS hC hP (Nat.le_trans hn9 hS.1) hD hAn) rfl rfl hl.1 rfl (lv_room (Nat.le_of_ble_eq_true rfl)) dX0_init_9 ⟨Nat.le_of_ble_eq_true rfl, Nat.le_of_ble_eq_true rfl⟩) hD hS hA (fun ur2 H locs hr2 hP hD hS hzr2 => ?_)
  obtain ⟨qr2, hqr2, Fr2, rfl, hFhr2, hFqr2, hFor2⟩ := hr2
  refine pl_putE (v := .ref q1) (ty := .object "Regionry$RegionSet") hx hb hts hi_X1 hi_X2 hi_X3 hi_X4 hi_X5 hi_X7 hown hK hP hD hS (List.mem_append_left _ (List.mem_append_left _ hh)) hc ((hFor2 _ (List.mem_append_left _ hh) (ne_new hh hq1)).trans ((va_up_ne _ _ (ne_new hh hq1)).trans hfh)) 2 (by decide) hw_7 hin9 (by decide +kernel) rfl rfl dX0_init_12 (fun H locs hP hD hS => ?_)
  have hP : va_P D vwCl (va_pl (L ++ [q1] ++ [qr2]) (va_up Fr2 h (.inr (ci, .int (0) :: .int (0) :: .ref q1 :: .null :: rest)))) H := hP
  have hD : va_D A (va_pl (L ++ [q1] ++ [qr2]) (va_up Fr2 h (.inr (ci, .int (0) :: .int (0) :: .ref q1 :: .null :: rest)))) := hD
  refine lv_aload_n hx hb dX0_init_15 rfl (lv_at hl 0 rfl) ?_
  refine pl_obj (ci := 5) (fs := [.null]) (C := RX6) (T := TX6) (N := 1) hx hb hts hi_X6 tyX6 tyX6_ok hown hw_3 hw_4 hw_5 hK hP hD hS hA rfl (fun j hj => by rcases (show j = 0 by omega) with rfl <;> rfl) (Nat.le_of_ble_eq_true rfl) (Nat.le_of_ble_eq_true rfl) dX0_init_16 (fun q3 H hq3 hP hD hS => ?_)
  have hP : va_P D vwCl (va_pl (L ++ [q1] ++ [qr2] ++ [q3]) (va_up (va_up Fr2 h (.inr (ci, .int (0) :: .int (0) :: .ref q1 :: .null :: rest))) q3 (.inr (5, [.null])))) H := hP
  have hD : va_D A (va_pl (L ++ [q1] ++ [qr2] ++ [q3]) (va_up (va_up Fr2 h (.inr (ci, .int (0) :: .int (0) :: .ref q1 :: .null :: rest))) q3 (.inr (5, [.null])))) := hD
  refine lv_dup hx hb dX0_init_19 rfl ?_
  refine pc_callv (va_runIN (As := []) (rest := [.ref q3, .ref h]) ⟨hx, hb, hml, hown, hts⟩ (kX6_init l D k (L ++ [q1] ++ [qr2] ++ [q3]) (va_up (va_up Fr2 h (.inr (ci, .int (0) :: .int (0) :: .ref q1 :: .null :: rest))) q3 (.inr (5, [.null]))) q3 (List.mem_append_right _ (List.mem_singleton.mpr rfl)) (va_up_self _ _ _) n0 _) ⟨va_cnB 0 hts gX0_init_X6_init_n9 rfl rfl rfl (hNW (.methodLinkNest RX0 9 yX6_init "Regionry") (by decide +kernel)) hw_5 (by decide +kernel) ⟨Nat.le_of_ble_eq_true rfl, Nat.le_of_ble_eq_true rfl⟩, rfl, hw_6⟩ (pc_preS hC hP (Nat.le_trans hn9 hS.1) hD hAn) rfl rfl hl.1 rfl (lv_room (Nat.le_of_ble_eq_true rfl)) dX0_init_20 ⟨Nat.le_of_ble_eq_true rfl, Nat.le_of_ble_eq_true rfl⟩) hD hS hA (fun ur4 H locs hr4 hP hD hS hzr4 => ?_)
  obtain ⟨qr4, hqr4, Fr4, rfl, hFhr4, hFqr4, hFor4⟩ := hr4
  refine pl_putE (v := .ref q3) (ty := .object "Regionry$RegionSet") hx hb hts hi_X1 hi_X2 hi_X3 hi_X4 hi_X5 hi_X7 hown hK hP hD hS (List.mem_append_left _ (List.mem_append_left _ (List.mem_append_left _ (List.mem_append_left _ hh)))) hc ((hFor4 _ (List.mem_append_left _ (List.mem_append_left _ (List.mem_append_left _ hh))) (ne_new (List.mem_append_left _ (List.mem_append_left _ hh)) hq3)).trans ((va_up_ne _ _ (ne_new (List.mem_append_left _ (List.mem_append_left _ hh)) hq3)).trans (va_up_self _ _ _))) 3 (by decide) hw_8 hin9 (by decide +kernel) rfl rfl dX0_init_23 (fun H locs hP hD hS => ?_)
  have hP : va_P D vwCl (va_pl (L ++ [q1] ++ [qr2] ++ [q3] ++ [qr4]) (va_up Fr4 h (.inr (ci, .int (0) :: .int (0) :: .ref q1 :: .ref q3 :: rest)))) H := hP
  have hD : va_D A (va_pl (L ++ [q1] ++ [qr2] ++ [q3] ++ [qr4]) (va_up Fr4 h (.inr (ci, .int (0) :: .int (0) :: .ref q1 :: .ref q3 :: rest)))) := hD
  refine lv_aload_n hx hb dX0_init_26 rfl (lv_at hl 0 rfl) ?_
  refine lv_iload_n hx hb dX0_init_27 rfl (lv_at hl 2 rfl) ?_
  refine pl_putE (v := .int (zI (z2))) (ty := .int) hx hb hts hi_X1 hi_X2 hi_X3 hi_X4 hi_X5 hi_X7 hown hK hP hD hS (List.mem_append_left _ (List.mem_append_left _ (List.mem_append_left _ (List.mem_append_left _ hh)))) hc (va_up_self _ _ _) 0 (by decide) hw_9 hin9 (by decide +kernel) rfl rfl dX0_init_28 (fun H locs hP hD hS => ?_)
  rw [bx_uu] at hP hD
  have hP : va_P D vwCl (va_pl (L ++ [q1] ++ [qr2] ++ [q3] ++ [qr4]) (va_up Fr4 h (.inr (ci, .int (zI (z2)) :: .int (0) :: .ref q1 :: .ref q3 :: rest)))) H := hP
  have hD : va_D A (va_pl (L ++ [q1] ++ [qr2] ++ [q3] ++ [qr4]) (va_up Fr4 h (.inr (ci, .int (zI (z2)) :: .int (0) :: .ref q1 :: .ref q3 :: rest)))) := hD
  refine lv_aload_n hx hb dX0_init_31 rfl (lv_at hl 0 rfl) ?_
  refine lv_iload_n hx hb dX0_init_32 rfl (lv_at hl 3 rfl) ?_
  refine zr_const hx hb dX0_init_33 ?_
  refine lv_iload_n hx hb dX0_init_34 rfl (lv_at hl 1 rfl) ?_
  refine zr_shl1 hx hb (by omega) dX0_init_35 ?_
  refine lv_ior hx hb dX0_init_36 ?_
  refine pl_putE (v := .int (x3 ||| (pw (z1).toNat))) (ty := .int) hx hb hts hi_X1 hi_X2 hi_X3 hi_X4 hi_X5 hi_X7 hown hK hP hD hS (List.mem_append_left _ (List.mem_append_left _ (List.mem_append_left _ (List.mem_append_left _ hh)))) hc (va_up_self _ _ _) 1 (by decide) hw_10 hin9 (by decide +kernel) rfl rfl dX0_init_37 (fun H locs hP hD hS => ?_)
  rw [bx_uu] at hP hD
  have hP : va_P D vwCl (va_pl (L ++ [q1] ++ [qr2] ++ [q3] ++ [qr4]) (va_up Fr4 h (.inr (ci, .int (zI (z2)) :: .int (x3 ||| (pw (z1).toNat)) :: .ref q1 :: .ref q3 :: rest)))) H := hP
  have hD : va_D A (va_pl (L ++ [q1] ++ [qr2] ++ [q3] ++ [qr4]) (va_up Fr4 h (.inr (ci, .int (zI (z2)) :: .int (x3 ||| (pw (z1).toNat)) :: .ref q1 :: .ref q3 :: rest)))) := hD
  rw [hQ]
  exact pc_vret hx hb hrt hP (by rw [← hAd]; exact hD) (by rw [← hAd]; exact hS) (⟨q1, hq1, qr2, hqr2, q3, hq3, qr4, hqr4, _, rfl, (va_up_self _ _ _), ((va_up_ne _ _ (Ne.symm (ne_new hh hq1))).trans ((hFor4 _ (List.mem_append_left _ (List.mem_append_left _ (List.mem_append_right _ (List.mem_singleton.mpr rfl)))) (ne_new (List.mem_append_left _ (List.mem_append_right _ (List.mem_singleton.mpr rfl))) hq3)).trans ((va_up_ne _ _ (ne_new (List.mem_append_left _ (List.mem_append_right _ (List.mem_singleton.mpr rfl))) hq3)).trans ((va_up_ne _ _ (Ne.symm (ne_new hh hq1))).trans hFhr2)))), ((va_up_ne _ _ (Ne.symm (ne_new (List.mem_append_left _ hh) hqr2))).trans ((hFor4 _ (List.mem_append_left _ (List.mem_append_right _ (List.mem_singleton.mpr rfl))) (ne_new (List.mem_append_right _ (List.mem_singleton.mpr rfl)) hq3)).trans ((va_up_ne _ _ (ne_new (List.mem_append_right _ (List.mem_singleton.mpr rfl)) hq3)).trans ((va_up_ne _ _ (Ne.symm (ne_new (List.mem_append_left _ hh) hqr2))).trans hFqr2)))), ((va_up_ne _ _ (Ne.symm (ne_new (List.mem_append_left _ (List.mem_append_left _ hh)) hq3))).trans hFhr4), ((va_up_ne _ _ (Ne.symm (ne_new (List.mem_append_left _ (List.mem_append_left _ (List.mem_append_left _ hh))) hqr4))).trans hFqr4), fun a9 ha9 hne9 => ((va_up_ne _ _ hne9).trans ((hFor4 _ (List.mem_append_left _ (List.mem_append_left _ (List.mem_append_left _ ha9))) (ne_new (List.mem_append_left _ (List.mem_append_left _ ha9)) hq3)).trans ((va_up_ne _ _ (ne_new (List.mem_append_left _ (List.mem_append_left _ ha9)) hq3)).trans ((va_up_ne _ _ hne9).trans ((hFor2 _ (List.mem_append_left _ ha9) (ne_new ha9 hq1)).trans ((va_up_ne _ _ (ne_new ha9 hq1)).trans rfl))))))⟩) dX0_init_40 hlocks

set_option maxHeartbeats 4000000 in
set_option maxRecDepth 100000 in
theorem kX9_depthAbove (l : Launch) (D : va_G) (k : Nat → ClassId) (L : List Nat) (f : Nat → va_E) (o1 : Nat) (d1 : Int) (n1 : Int32) (gs1 as1 : Nat) (hd1 : -100 ≤ d1 ∧ d1 ≤ 100) (ho1 : o1 ∈ L) (hx1 : exAt f o1 (zI d1) n1 gs1 as1) (o2 : Nat) (d2 : Int) (n2 : Int32) (gs2 as2 : Nat) (hd2 : -100 ≤ d2 ∧ d2 ≤ 100) (ho2 : o2 ∈ L) (hx2 : exAt f o2 (zI d2) n2 gs2 as2) : Met l yX9_depthAbove wsX9_depthAbove ({ frames := 1, cells := 0, slots := 0, locals := 14 } : Room) (va_Pc [.ref o1, .ref o2] (rPre D (tyL k) (va_pl L f))) (vp_Si (fun r9 => r9 = zI (1 + max d1 d2))) 0 0 (fun _ => False) := by
  refine Met.ofW (cc := cX9_depthAbove) (maxL := 2) (ret := (some .int)) (by decide) rfl ?_
  intro p e s m args below meth c s₁ B hml hv
  obtain ⟨rfl, hP, hC⟩ := hv
  have hK := hC.1
  have hNW := hC.2.1
  have hx := B.exec
  have hb := B.bytes
  have hrt := B.returns
  have hts := atoms_spec (ws := wsX9_depthAbove) B.pre
  have hown : s.vm.findClass RX9 = some m.cls := findClass_of_methodNamed B.named
  have hlocks := B.notSynchronized
  have hi_X1 : ∀ w ∈ u_ws RX1 TX1 5, w ∈ wsX9_depthAbove := by decide +kernel
  have hi_X2 : ∀ w ∈ u_ws RX2 TX2 5, w ∈ wsX9_depthAbove := by decide +kernel
  have hi_X3 : ∀ w ∈ u_ws RX3 TX3 7, w ∈ wsX9_depthAbove := by decide +kernel
  have hi_X4 : ∀ w ∈ u_ws RX4 TX4 6, w ∈ wsX9_depthAbove := by decide +kernel
  have hi_X5 : ∀ w ∈ u_ws RX5 TX5 7, w ∈ wsX9_depthAbove := by decide +kernel
  have hi_X7 : ∀ w ∈ u_ws RX7 TX7 7, w ∈ wsX9_depthAbove := by decide +kernel
  have hw_0 := hts (.fieldLink RX9 174 "Regionry$Expression" "depth" "I") (by decide +kernel)
  have hw_1 := hts (.methodLink RX9 177 Lib.Math.max.name) (by decide +kernel)
  have hw_2 := hts (.static Lib.Math.max.name) (by decide +kernel)
  have hw_3 := hts (.initialized "java/lang/Math") (by decide +kernel)
  have hw_4 := hts (.code Lib.Math.max.name Lib.Math.max.code 2 (some .int)) (by decide +kernel)
  have hl := lv_entry ([.ref o1, .ref o2]) (n := 2) (Nat.le_of_ble_eq_true rfl)
  rw [lg_entry_eq]
  generalize (lg_sl ([.ref o1, .ref o2]) ++ List.replicate (2 - (lg_sl ([.ref o1, .ref o2])).length) Slot.unset).toArray = ls at hl ⊢
  have hl : lv_has ls 2 [(0, .ref o1), (1, .ref o2)] := hl
  obtain ⟨Q, hQ⟩ : ∃ Q, Q = MQ below (vp_Si (fun r9 => r9 = zI (1 + max d1 d2))) ([.ref o1, .ref o2] : List Value).toArray s 0 0 (fun _ => False) := ⟨_, rfl⟩
  rw [← hQ]
  refine zr_const hx hb dX9_depthAbove_0 ?_
  refine lv_aload_n hx hb dX9_depthAbove_1 rfl (lv_at hl 0 rfl) ?_
  refine pl_getE (v := .int (zI (d1))) hx hb hts hi_X1 hi_X2 hi_X3 hi_X4 hi_X5 hi_X7 hown hK hP ho1 hx1 0 (by decide) hw_0 rfl dX9_depthAbove_2 ?_
  refine lv_aload_n hx hb dX9_depthAbove_5 rfl (lv_at hl 1 rfl) ?_
  refine pl_getE (v := .int (zI (d2))) hx hb hts hi_X1 hi_X2 hi_X3 hi_X4 hi_X5 hi_X7 hown hK hP ho2 hx2 0 (by decide) hw_0 rfl dX9_depthAbove_6 ?_
  refine va_mmax hx hb (hml.trans hl.1.symm) hown hw_1 hw_2 hw_3 hw_4 (Nat.le_of_ble_eq_true rfl) (Nat.le_of_ble_eq_true rfl) (Nat.zero_le _) (Nat.zero_le _) dX9_depthAbove_9 ?_
  refine zr_top (zI_max (by omega) (by omega)) ?_
  refine zr_add hx hb dX9_depthAbove_12 ?_
  rw [hQ]
  exact rc_iret hx hb hrt (rfl) dX9_depthAbove_13 hlocks

set_option maxHeartbeats 4000000 in
set_option maxRecDepth 100000 in
theorem kX1_init (l : Launch) (D : va_G) (k : Nat → ClassId) (L : List Nat) (f : Nat → va_E) (h : Nat) (hh : h ∈ L) (hfh : f h = .inr (0, [.int (0), .int (0), .null, .null, .null])) (z1 : Int) (hz1 : 0 ≤ z1 ∧ z1 ≤ 30) (ms : Nat) (n0 sz : Nat) : Met l yX1_init wsX1_init ({ frames := 3, cells := 4, slots := 50, locals := 55 } : Room) (va_Pc [.ref h, .int (zI (z1)), .ref ms] (pPre D (tyL k) n0 (va_pl L f) sz)) (va_Qv (fun u => ∃ q1, q1 ∉ L ∧ ∃ r1, r1 ∉ (L ++ [q1]) ∧ ∃ q2, q2 ∉ (L ++ [q1] ++ [r1]) ∧ ∃ r2, r2 ∉ (L ++ [q1] ++ [r1] ++ [q2]) ∧ ∃ F, u = va_pl (L ++ [q1] ++ [r1] ++ [q2] ++ [r2]) F ∧ F h = .inr (0, [.int (zI 1), .int (zI 0 ||| pw z1.toNat), .ref q1, .ref q2, .ref ms]) ∧ F q1 = .inr (5, [.ref r1]) ∧ F r1 = .inl (k 0, 24, .inl (fun _ => 0)) ∧ F q2 = .inr (5, [.ref r2]) ∧ F r2 = .inl (k 0, 24, .inl (fun _ => 0)) ∧ ∀ a, a ∈ L → a ≠ h → F a = f a) (pB D (va_pl L f) sz) (va_A (va_pl L f) sz)) 4 50 (va_A (va_pl L f) sz) := by
  refine Met.ofW (cc := cX1_init) (maxL := 3) (ret := none) (by decide) rfl ?_
  intro p e s m args below meth c s₁ B hml hv
  obtain ⟨rfl, hsz, hn9, hP, hC, hD0⟩ := hv
  have hK := hC.1
  have hNW := hC.2.1
  have hx := B.exec
  have hb := B.bytes
  have hrt := B.returns
  have hts := atoms_spec (ws := wsX1_init) B.pre
  have hown : s.vm.findClass RX1 = some m.cls := findClass_of_methodNamed B.named
  have hlocks := B.notSynchronized
  have hin9 : meth.name = "<init>" := (name_of_methodNamed B.named B.method).1
  subst hsz
  obtain ⟨A, hAd⟩ : ∃ A, A = va_A (va_pl L f) s.heap.size := ⟨_, rfl⟩
  have hD := hD0.self (sz := s.heap.size)
  rw [← hAd] at hD
  have hA : ∀ q : Nat, s.heap.size ≤ q → A q := fun q h => by rw [hAd]; exact Or.inr h
  have hAn : ∀ q : Nat, A q → n0 ≤ q := fun q h => by
    rw [hAd] at h
    rcases h with ⟨k9, e9, hk9⟩ | h
    · exact hD0.2 k9 _ hk9
    · exact Nat.le_trans hn9 h
  have hS : va_S A s.heap s.heap [] := va_S.rf
  have hi_X1 : ∀ w ∈ u_ws RX1 TX1 5, w ∈ wsX1_init := by decide +kernel
  have hw_0 := hts (.initialized RX0) (by decide +kernel)
  have hw_1 := hts (.methodLink RX1 1 yX0_init) (by decide +kernel)
  have hw_2 := hts (.instanceMethod yX0_init) (by decide +kernel)
  have hw_3 := hts (.fieldLink RX1 7 "Regionry$KindExpression" "marks" "LRegionry$RegionSet;") (by decide +kernel)
  have hl := lv_entry ([.ref h, .int (zI (z1)), .ref ms]) (n := 3) (Nat.le_of_ble_eq_true rfl)
  rw [lg_entry_eq]
  generalize (lg_sl ([.ref h, .int (zI (z1)), .ref ms]) ++ List.replicate (3 - (lg_sl ([.ref h, .int (zI (z1)), .ref ms])).length) Slot.unset).toArray = ls at hl ⊢
  have hl : lv_has ls 3 [(0, .ref h), (1, .int (zI (z1))), (2, .ref ms)] := hl
  obtain ⟨Q, hQ⟩ : ∃ Q, Q = MQ below (va_Qv (fun u => ∃ q1, q1 ∉ L ∧ ∃ r1, r1 ∉ (L ++ [q1]) ∧ ∃ q2, q2 ∉ (L ++ [q1] ++ [r1]) ∧ ∃ r2, r2 ∉ (L ++ [q1] ++ [r1] ++ [q2]) ∧ ∃ F, u = va_pl (L ++ [q1] ++ [r1] ++ [q2] ++ [r2]) F ∧ F h = .inr (0, [.int (zI 1), .int (zI 0 ||| pw z1.toNat), .ref q1, .ref q2, .ref ms]) ∧ F q1 = .inr (5, [.ref r1]) ∧ F r1 = .inl (k 0, 24, .inl (fun _ => 0)) ∧ F q2 = .inr (5, [.ref r2]) ∧ F r2 = .inl (k 0, 24, .inl (fun _ => 0)) ∧ ∀ a, a ∈ L → a ≠ h → F a = f a) (pB D (va_pl L f) s.heap.size) (va_A (va_pl L f) s.heap.size)) ([.ref h, .int (zI (z1)), .ref ms] : List Value).toArray s 4 50 (va_A (va_pl L f) s.heap.size) := ⟨_, rfl⟩
  rw [← hQ]
  refine lv_aload_n hx hb dX1_init_0 rfl (lv_at hl 0 rfl) ?_
  refine lv_iload_n hx hb dX1_init_1 rfl (lv_at hl 1 rfl) ?_
  refine zr_const hx hb dX1_init_2 ?_
  refine zr_const hx hb dX1_init_3 ?_
  refine pc_callv (va_runI (As := [.int (zI (z1)), .int (zI (1)), .int (zI (0))]) (rest := []) ⟨hx, hb, hml, hown, hts⟩ (kX0_init l D k L f h 0 [.null] (by unfold exC; omega) hh hfh (z1) (by omega) (1) (by omega) (zI (0)) n0 _) (cwI 3 hts gX1_init_X0_init rfl rfl rfl hw_0 hw_1 hw_2 rfl (by decide +kernel) ⟨Nat.le_of_ble_eq_true rfl, Nat.le_of_ble_eq_true rfl⟩) (pc_preS hC hP (Nat.le_trans hn9 hS.1) hD hAn) rfl rfl hl.1 rfl (lv_room (Nat.le_of_ble_eq_true rfl)) dX1_init_4 ⟨Nat.le_of_ble_eq_true rfl, Nat.le_of_ble_eq_true rfl⟩) hD hS hA (fun ur1 H locs hr1 hP hD hS hzr1 => ?_)
  obtain ⟨qar1, hqar1, rar1, hrar1, qbr1, hqbr1, rbr1, hrbr1, Fr1, rfl, hFhr1, hFar1, hFbr1, hFcr1, hFdr1, hFor1⟩ := hr1
  refine lv_aload_n hx hb dX1_init_7 rfl (lv_at hl 0 rfl) ?_
  refine lv_aload_n hx hb dX1_init_8 rfl (lv_at hl 2 rfl) ?_
  refine pl_putF (ci := 0) (v := .ref ms) (ty := .object "Regionry$RegionSet") (C := RX1) (T := TX1) (N := 5) hx hb hts hi_X1 tyX1 tyX1_ok nmX1 hown hK hP hD hS (List.mem_append_left _ (List.mem_append_left _ (List.mem_append_left _ (List.mem_append_left _ hh)))) hFhr1 rfl 4 (by decide) hw_3 (fun _ h9 => h9) rfl hin9 rfl (by decide +kernel) rfl rfl (Nat.le_of_ble_eq_true rfl) dX1_init_9 (fun H locs hP hD hS => ?_)
  have hP : va_P D vwCl (va_pl (L ++ [qar1] ++ [rar1] ++ [qbr1] ++ [rbr1]) (va_up Fr1 h (.inr (0, [.int (zI (1)), .int ((zI (0)) ||| pw z1.toNat), .ref qar1, .ref qbr1, .ref ms])))) H := hP
  have hD : va_D A (va_pl (L ++ [qar1] ++ [rar1] ++ [qbr1] ++ [rbr1]) (va_up Fr1 h (.inr (0, [.int (zI (1)), .int ((zI (0)) ||| pw z1.toNat), .ref qar1, .ref qbr1, .ref ms])))) := hD
  rw [hQ]
  exact pc_vret hx hb hrt hP (by rw [← hAd]; exact hD) (by rw [← hAd]; exact hS) (⟨qar1, hqar1, rar1, hrar1, qbr1, hqbr1, rbr1, hrbr1, _, rfl, (va_up_self _ _ _), ((va_up_ne _ _ (Ne.symm (ne_new hh hqar1))).trans hFar1), ((va_up_ne _ _ (Ne.symm (ne_new (List.mem_append_left _ hh) hrar1))).trans hFbr1), ((va_up_ne _ _ (Ne.symm (ne_new (List.mem_append_left _ (List.mem_append_left _ hh)) hqbr1))).trans hFcr1), ((va_up_ne _ _ (Ne.symm (ne_new (List.mem_append_left _ (List.mem_append_left _ (List.mem_append_left _ hh))) hrbr1))).trans hFdr1), fun a9 ha9 hne9 => ((va_up_ne _ _ hne9).trans ((hFor1 _ ha9 hne9).trans rfl))⟩) dX1_init_12 hlocks

set_option maxHeartbeats 4000000 in
set_option maxRecDepth 100000 in
theorem kX2_init (l : Launch) (D : va_G) (k : Nat → ClassId) (L : List Nat) (f : Nat → va_E) (h : Nat) (hh : h ∈ L) (hfh : f h = .inr (1, [.int (0), .int (0), .null, .null, .int (0)])) (z1 : Int) (hz1 : 0 ≤ z1 ∧ z1 ≤ 30) (x : Int32) (n0 sz : Nat) : Met l yX2_init wsX2_init ({ frames := 3, cells := 4, slots := 50, locals := 55 } : Room) (va_Pc [.ref h, .int (zI (z1)), .int (x)] (pPre D (tyL k) n0 (va_pl L f) sz)) (va_Qv (fun u => ∃ q1, q1 ∉ L ∧ ∃ r1, r1 ∉ (L ++ [q1]) ∧ ∃ q2, q2 ∉ (L ++ [q1] ++ [r1]) ∧ ∃ r2, r2 ∉ (L ++ [q1] ++ [r1] ++ [q2]) ∧ ∃ F, u = va_pl (L ++ [q1] ++ [r1] ++ [q2] ++ [r2]) F ∧ F h = .inr (1, [.int (zI 1), .int (zI 0 ||| pw z1.toNat), .ref q1, .ref q2, .int x]) ∧ F q1 = .inr (5, [.ref r1]) ∧ F r1 = .inl (k 0, 24, .inl (fun _ => 0)) ∧ F q2 = .inr (5, [.ref r2]) ∧ F r2 = .inl (k 0, 24, .inl (fun _ => 0)) ∧ ∀ a, a ∈ L → a ≠ h → F a = f a) (pB D (va_pl L f) sz) (va_A (va_pl L f) sz)) 4 50 (va_A (va_pl L f) sz) := by
  refine Met.ofW (cc := cX2_init) (maxL := 3) (ret := none) (by decide) rfl ?_
  intro p e s m args below meth c s₁ B hml hv
  obtain ⟨rfl, hsz, hn9, hP, hC, hD0⟩ := hv
  have hK := hC.1
  have hNW := hC.2.1
  have hx := B.exec
  have hb := B.bytes
  have hrt := B.returns
  have hts := atoms_spec (ws := wsX2_init) B.pre
  have hown : s.vm.findClass RX2 = some m.cls := findClass_of_methodNamed B.named
  have hlocks := B.notSynchronized
  have hin9 : meth.name = "<init>" := (name_of_methodNamed B.named B.method).1
  subst hsz
  obtain ⟨A, hAd⟩ : ∃ A, A = va_A (va_pl L f) s.heap.size := ⟨_, rfl⟩
  have hD := hD0.self (sz := s.heap.size)
  rw [← hAd] at hD
  have hA : ∀ q : Nat, s.heap.size ≤ q → A q := fun q h => by rw [hAd]; exact Or.inr h
  have hAn : ∀ q : Nat, A q → n0 ≤ q := fun q h => by
    rw [hAd] at h
    rcases h with ⟨k9, e9, hk9⟩ | h
    · exact hD0.2 k9 _ hk9
    · exact Nat.le_trans hn9 h
  have hS : va_S A s.heap s.heap [] := va_S.rf
  have hi_X2 : ∀ w ∈ u_ws RX2 TX2 5, w ∈ wsX2_init := by decide +kernel
  have hw_0 := hts (.initialized RX0) (by decide +kernel)
  have hw_1 := hts (.methodLink RX2 1 yX0_init) (by decide +kernel)
  have hw_2 := hts (.instanceMethod yX0_init) (by decide +kernel)
  have hw_3 := hts (.fieldLink RX2 7 "Regionry$LetterExpression" "sought" "I") (by decide +kernel)
  have hl := lv_entry ([.ref h, .int (zI (z1)), .int (x)]) (n := 3) (Nat.le_of_ble_eq_true rfl)
  rw [lg_entry_eq]
  generalize (lg_sl ([.ref h, .int (zI (z1)), .int (x)]) ++ List.replicate (3 - (lg_sl ([.ref h, .int (zI (z1)), .int (x)])).length) Slot.unset).toArray = ls at hl ⊢
  have hl : lv_has ls 3 [(0, .ref h), (1, .int (zI (z1))), (2, .int (x))] := hl
  obtain ⟨Q, hQ⟩ : ∃ Q, Q = MQ below (va_Qv (fun u => ∃ q1, q1 ∉ L ∧ ∃ r1, r1 ∉ (L ++ [q1]) ∧ ∃ q2, q2 ∉ (L ++ [q1] ++ [r1]) ∧ ∃ r2, r2 ∉ (L ++ [q1] ++ [r1] ++ [q2]) ∧ ∃ F, u = va_pl (L ++ [q1] ++ [r1] ++ [q2] ++ [r2]) F ∧ F h = .inr (1, [.int (zI 1), .int (zI 0 ||| pw z1.toNat), .ref q1, .ref q2, .int x]) ∧ F q1 = .inr (5, [.ref r1]) ∧ F r1 = .inl (k 0, 24, .inl (fun _ => 0)) ∧ F q2 = .inr (5, [.ref r2]) ∧ F r2 = .inl (k 0, 24, .inl (fun _ => 0)) ∧ ∀ a, a ∈ L → a ≠ h → F a = f a) (pB D (va_pl L f) s.heap.size) (va_A (va_pl L f) s.heap.size)) ([.ref h, .int (zI (z1)), .int (x)] : List Value).toArray s 4 50 (va_A (va_pl L f) s.heap.size) := ⟨_, rfl⟩
  rw [← hQ]
  refine lv_aload_n hx hb dX2_init_0 rfl (lv_at hl 0 rfl) ?_
  refine lv_iload_n hx hb dX2_init_1 rfl (lv_at hl 1 rfl) ?_
  refine zr_const hx hb dX2_init_2 ?_
  refine zr_const hx hb dX2_init_3 ?_
  refine pc_callv (va_runI (As := [.int (zI (z1)), .int (zI (1)), .int (zI (0))]) (rest := []) ⟨hx, hb, hml, hown, hts⟩ (kX0_init l D k L f h 1 [.int (0)] (by unfold exC; omega) hh hfh (z1) (by omega) (1) (by omega) (zI (0)) n0 _) (cwI 3 hts gX2_init_X0_init rfl rfl rfl hw_0 hw_1 hw_2 rfl (by decide +kernel) ⟨Nat.le_of_ble_eq_true rfl, Nat.le_of_ble_eq_true rfl⟩) (pc_preS hC hP (Nat.le_trans hn9 hS.1) hD hAn) rfl rfl hl.1 rfl (lv_room (Nat.le_of_ble_eq_true rfl)) dX2_init_4 ⟨Nat.le_of_ble_eq_true rfl, Nat.le_of_ble_eq_true rfl⟩) hD hS hA (fun ur1 H locs hr1 hP hD hS hzr1 => ?_)
  obtain ⟨qar1, hqar1, rar1, hrar1, qbr1, hqbr1, rbr1, hrbr1, Fr1, rfl, hFhr1, hFar1, hFbr1, hFcr1, hFdr1, hFor1⟩ := hr1
  refine lv_aload_n hx hb dX2_init_7 rfl (lv_at hl 0 rfl) ?_
  refine lv_iload_n hx hb dX2_init_8 rfl (lv_at hl 2 rfl) ?_
  refine pl_putF (ci := 1) (v := .int (x)) (ty := .int) (C := RX2) (T := TX2) (N := 5) hx hb hts hi_X2 tyX2 tyX2_ok nmX2 hown hK hP hD hS (List.mem_append_left _ (List.mem_append_left _ (List.mem_append_left _ (List.mem_append_left _ hh)))) hFhr1 rfl 4 (by decide) hw_3 (fun _ h9 => h9) rfl hin9 rfl (by decide +kernel) rfl rfl (Nat.le_of_ble_eq_true rfl) dX2_init_9 (fun H locs hP hD hS => ?_)
  have hP : va_P D vwCl (va_pl (L ++ [qar1] ++ [rar1] ++ [qbr1] ++ [rbr1]) (va_up Fr1 h (.inr (1, [.int (zI (1)), .int ((zI (0)) ||| pw z1.toNat), .ref qar1, .ref qbr1, .int (x)])))) H := hP
  have hD : va_D A (va_pl (L ++ [qar1] ++ [rar1] ++ [qbr1] ++ [rbr1]) (va_up Fr1 h (.inr (1, [.int (zI (1)), .int ((zI (0)) ||| pw z1.toNat), .ref qar1, .ref qbr1, .int (x)])))) := hD
  rw [hQ]
  exact pc_vret hx hb hrt hP (by rw [← hAd]; exact hD) (by rw [← hAd]; exact hS) (⟨qar1, hqar1, rar1, hrar1, qbr1, hqbr1, rbr1, hrbr1, _, rfl, (va_up_self _ _ _), ((va_up_ne _ _ (Ne.symm (ne_new hh hqar1))).trans hFar1), ((va_up_ne _ _ (Ne.symm (ne_new (List.mem_append_left _ hh) hrar1))).trans hFbr1), ((va_up_ne _ _ (Ne.symm (ne_new (List.mem_append_left _ (List.mem_append_left _ hh)) hqbr1))).trans hFcr1), ((va_up_ne _ _ (Ne.symm (ne_new (List.mem_append_left _ (List.mem_append_left _ (List.mem_append_left _ hh))) hrbr1))).trans hFdr1), fun a9 ha9 hne9 => ((va_up_ne _ _ hne9).trans ((hFor1 _ ha9 hne9).trans rfl))⟩) dX2_init_12 hlocks

set_option maxHeartbeats 4000000 in
set_option maxRecDepth 100000 in
theorem kX3_init (l : Launch) (D : va_G) (k : Nat → ClassId) (L : List Nat) (f : Nat → va_E) (h : Nat) (hh : h ∈ L) (hfh : f h = .inr (2, [.int (0), .int (0), .null, .null, .null, .null, .int (0)])) (z1 : Int) (hz1 : 0 ≤ z1 ∧ z1 ≤ 30) (o1 : Nat) (d1 : Int) (n1 : Int32) (gs1 as1 : Nat) (hd1 : -100 ≤ d1 ∧ d1 ≤ 100) (ho1 : o1 ∈ L) (hx1 : exAt f o1 (zI d1) n1 gs1 as1) (o2 : Nat) (d2 : Int) (n2 : Int32) (gs2 as2 : Nat) (hd2 : -100 ≤ d2 ∧ d2 ≤ 100) (ho2 : o2 ∈ L) (hx2 : exAt f o2 (zI d2) n2 gs2 as2) (hne1 : o1 ≠ h) (hne2 : o2 ≠ h) (x : Int32) (n0 sz : Nat) : Met l yX3_init wsX3_init ({ frames := 3, cells := 4, slots := 50, locals := 55 } : Room) (va_Pc [.ref h, .int (zI (z1)), .ref o1, .ref o2, .int (x)] (pPre D (tyL k) n0 (va_pl L f) sz)) (va_Qv (fun u => ∃ q1, q1 ∉ L ∧ ∃ r1, r1 ∉ (L ++ [q1]) ∧ ∃ q2, q2 ∉ (L ++ [q1] ++ [r1]) ∧ ∃ r2, r2 ∉ (L ++ [q1] ++ [r1] ++ [q2]) ∧ ∃ F, u = va_pl (L ++ [q1] ++ [r1] ++ [q2] ++ [r2]) F ∧ F h = .inr (2, [.int (zI (1 + max d1 d2)), .int ((n1 ||| n2) ||| pw z1.toNat), .ref q1, .ref q2, .ref o1, .ref o2, .int x]) ∧ F q1 = .inr (5, [.ref r1]) ∧ F r1 = .inl (k 0, 24, .inl (fun _ => 0)) ∧ F q2 = .inr (5, [.ref r2]) ∧ F r2 = .inl (k 0, 24, .inl (fun _ => 0)) ∧ ∀ a, a ∈ L → a ≠ h → F a = f a) (pB D (va_pl L f) sz) (va_A (va_pl L f) sz)) 4 50 (va_A (va_pl L f) sz) := by
  refine Met.ofW (cc := cX3_init) (maxL := 5) (ret := none) (by decide) rfl ?_
  intro p e s m args below meth c s₁ B hml hv
  obtain ⟨rfl, hsz, hn9, hP, hC, hD0⟩ := hv
  have hK := hC.1
  have hNW := hC.2.1
  have hx := B.exec
  have hb := B.bytes
  have hrt := B.returns
  have hts := atoms_spec (ws := wsX3_init) B.pre
  have hown : s.vm.findClass RX3 = some m.cls := findClass_of_methodNamed B.named
  have hlocks := B.notSynchronized
  have hin9 : meth.name = "<init>" := (name_of_methodNamed B.named B.method).1
  subst hsz
  obtain ⟨A, hAd⟩ : ∃ A, A = va_A (va_pl L f) s.heap.size := ⟨_, rfl⟩
  have hD := hD0.self (sz := s.heap.size)
  rw [← hAd] at hD
  have hA : ∀ q : Nat, s.heap.size ≤ q → A q := fun q h => by rw [hAd]; exact Or.inr h
  have hAn : ∀ q : Nat, A q → n0 ≤ q := fun q h => by
    rw [hAd] at h
    rcases h with ⟨k9, e9, hk9⟩ | h
    · exact hD0.2 k9 _ hk9
    · exact Nat.le_trans hn9 h
  have hS : va_S A s.heap s.heap [] := va_S.rf
  have hi_X1 : ∀ w ∈ u_ws RX1 TX1 5, w ∈ wsX3_init := by decide +kernel
  have hi_X2 : ∀ w ∈ u_ws RX2 TX2 5, w ∈ wsX3_init := by decide +kernel
  have hi_X3 : ∀ w ∈ u_ws RX3 TX3 7, w ∈ wsX3_init := by decide +kernel
  have hi_X4 : ∀ w ∈ u_ws RX4 TX4 6, w ∈ wsX3_init := by decide +kernel
  have hi_X5 : ∀ w ∈ u_ws RX5 TX5 7, w ∈ wsX3_init := by decide +kernel
  have hi_X7 : ∀ w ∈ u_ws RX7 TX7 7, w ∈ wsX3_init := by decide +kernel
  have hw_0 := hts (.initialized RX9) (by decide +kernel)
  have hw_1 := hts (.static yX9_depthAbove) (by decide +kernel)
  have hw_2 := hts (.fieldLink RX3 7 "Regionry$Expression" "needed" "I") (by decide +kernel)
  have hw_3 := hts (.initialized RX0) (by decide +kernel)
  have hw_4 := hts (.methodLink RX3 13 yX0_init) (by decide +kernel)
  have hw_5 := hts (.instanceMethod yX0_init) (by decide +kernel)
  have hw_6 := hts (.fieldLink RX3 17 "Regionry$NearExpression" "one" "LRegionry$Expression;") (by decide +kernel)
  have hw_7 := hts (.fieldLink RX3 23 "Regionry$NearExpression" "other" "LRegionry$Expression;") (by decide +kernel)
  have hw_8 := hts (.fieldLink RX3 26 "Regionry$NearExpression" "gap" "I") (by decide +kernel)
  have hl := lv_entry ([.ref h, .int (zI (z1)), .ref o1, .ref o2, .int (x)]) (n := 5) (Nat.le_of_ble_eq_true rfl)
  rw [lg_entry_eq]
  generalize (lg_sl ([.ref h, .int (zI (z1)), .ref o1, .ref o2, .int (x)]) ++ List.replicate (5 - (lg_sl ([.ref h, .int (zI (z1)), .ref o1, .ref o2, .int (x)])).length) Slot.unset).toArray = ls at hl ⊢
  have hl : lv_has ls 5 [(0, .ref h), (1, .int (zI (z1))), (2, .ref o1), (3, .ref o2), (4, .int (x))] := hl
  obtain ⟨Q, hQ⟩ : ∃ Q, Q = MQ below (va_Qv (fun u => ∃ q1, q1 ∉ L ∧ ∃ r1, r1 ∉ (L ++ [q1]) ∧ ∃ q2, q2 ∉ (L ++ [q1] ++ [r1]) ∧ ∃ r2, r2 ∉ (L ++ [q1] ++ [r1] ++ [q2]) ∧ ∃ F, u = va_pl (L ++ [q1] ++ [r1] ++ [q2] ++ [r2]) F ∧ F h = .inr (2, [.int (zI (1 + max d1 d2)), .int ((n1 ||| n2) ||| pw z1.toNat), .ref q1, .ref q2, .ref o1, .ref o2, .int x]) ∧ F q1 = .inr (5, [.ref r1]) ∧ F r1 = .inl (k 0, 24, .inl (fun _ => 0)) ∧ F q2 = .inr (5, [.ref r2]) ∧ F r2 = .inl (k 0, 24, .inl (fun _ => 0)) ∧ ∀ a, a ∈ L → a ≠ h → F a = f a) (pB D (va_pl L f) s.heap.size) (va_A (va_pl L f) s.heap.size)) ([.ref h, .int (zI (z1)), .ref o1, .ref o2, .int (x)] : List Value).toArray s 4 50 (va_A (va_pl L f) s.heap.size) := ⟨_, rfl⟩
  rw [← hQ]
  refine lv_aload_n hx hb dX3_init_0 rfl (lv_at hl 0 rfl) ?_
  refine lv_iload_n hx hb dX3_init_1 rfl (lv_at hl 1 rfl) ?_
  refine lv_aload_n hx hb dX3_init_2 rfl (lv_at hl 2 rfl) ?_
  refine lv_aload_n hx hb dX3_init_3 rfl (lv_at hl 3 rfl) ?_
  refine vp_callSi (va_Run.run (va_runSN (As := [.ref o1, .ref o2]) (rest := [.int (zI (z1)), .ref h]) ⟨hx, hb, hml, hown, hts⟩ (kX9_depthAbove l D k L f o1 d1 n1 gs1 as1 (by omega) ho1 hx1 o2 d2 n2 gs2 as2 (by omega) ho2 hx2) ⟨va_cnB 2 hts gX3_init_X9_depthAbove_n1 rfl rfl rfl (hNW (.methodLinkNest RX3 1 yX9_depthAbove "Regionry") (by decide +kernel)) hw_0 (by decide +kernel) ⟨Nat.le_of_ble_eq_true rfl, Nat.le_of_ble_eq_true rfl⟩, hw_1, trivial⟩ (rc_preS hC hP) rfl rfl hl.1 rfl (lv_room (Nat.le_of_ble_eq_true rfl)) dX3_init_4 ⟨Nat.zero_le _, Nat.zero_le _⟩)) (fun r1 hr1 => ?_)
  subst hr1
  refine lv_aload_n hx hb dX3_init_7 rfl (lv_at hl 2 rfl) ?_
  refine pl_getE (v := .int (n1)) hx hb hts hi_X1 hi_X2 hi_X3 hi_X4 hi_X5 hi_X7 hown hK hP ho1 hx1 1 (by decide) hw_2 rfl dX3_init_8 ?_
  refine lv_aload_n hx hb dX3_init_11 rfl (lv_at hl 3 rfl) ?_
  refine pl_getE (v := .int (n2)) hx hb hts hi_X1 hi_X2 hi_X3 hi_X4 hi_X5 hi_X7 hown hK hP ho2 hx2 1 (by decide) hw_2 rfl dX3_init_12 ?_
  refine lv_ior hx hb dX3_init_15 ?_
  refine pc_callv (va_runI (As := [.int (zI (z1)), .int (zI (1 + max d1 d2)), .int (n1 ||| n2)]) (rest := []) ⟨hx, hb, hml, hown, hts⟩ (kX0_init l D k L f h 2 [.null, .null, .int (0)] (by unfold exC; omega) hh hfh (z1) (by omega) (1 + max d1 d2) (by omega) (n1 ||| n2) n0 _) (cwI 3 hts gX3_init_X0_init rfl rfl rfl hw_3 hw_4 hw_5 rfl (by decide +kernel) ⟨Nat.le_of_ble_eq_true rfl, Nat.le_of_ble_eq_true rfl⟩) (pc_preS hC hP (Nat.le_trans hn9 hS.1) hD hAn) rfl rfl hl.1 rfl (lv_room (Nat.le_of_ble_eq_true rfl)) dX3_init_16 ⟨Nat.le_of_ble_eq_true rfl, Nat.le_of_ble_eq_true rfl⟩) hD hS hA (fun ur2 H locs hr2 hP hD hS hzr2 => ?_)
  obtain ⟨qar2, hqar2, rar2, hrar2, qbr2, hqbr2, rbr2, hrbr2, Fr2, rfl, hFhr2, hFar2, hFbr2, hFcr2, hFdr2, hFor2⟩ := hr2
  refine lv_aload_n hx hb dX3_init_19 rfl (lv_at hl 0 rfl) ?_
  refine lv_aload_n hx hb dX3_init_20 rfl (lv_at hl 2 rfl) ?_
  refine pl_putF (ci := 2) (v := .ref o1) (ty := .object "Regionry$Expression") (C := RX3) (T := TX3) (N := 7) hx hb hts hi_X3 tyX3 tyX3_ok nmX3 hown hK hP hD hS (List.mem_append_left _ (List.mem_append_left _ (List.mem_append_left _ (List.mem_append_left _ hh)))) hFhr2 rfl 4 (by decide) hw_6 (fun _ h9 => h9) rfl hin9 rfl (by decide +kernel) rfl rfl (Nat.le_of_ble_eq_true rfl) dX3_init_21 (fun H locs hP hD hS => ?_)
  have hP : va_P D vwCl (va_pl (L ++ [qar2] ++ [rar2] ++ [qbr2] ++ [rbr2]) (va_up Fr2 h (.inr (2, [.int (zI (1 + max d1 d2)), .int ((n1 ||| n2) ||| pw z1.toNat), .ref qar2, .ref qbr2, .ref o1, .null, .int (0)])))) H := hP
  have hD : va_D A (va_pl (L ++ [qar2] ++ [rar2] ++ [qbr2] ++ [rbr2]) (va_up Fr2 h (.inr (2, [.int (zI (1 + max d1 d2)), .int ((n1 ||| n2) ||| pw z1.toNat), .ref qar2, .ref qbr2, .ref o1, .null, .int (0)])))) := hD
  refine lv_aload_n hx hb dX3_init_24 rfl (lv_at hl 0 rfl) ?_
  refine lv_aload_n hx hb dX3_init_25 rfl (lv_at hl 3 rfl) ?_
  refine pl_putF (ci := 2) (v := .ref o2) (ty := .object "Regionry$Expression") (C := RX3) (T := TX3) (N := 7) hx hb hts hi_X3 tyX3 tyX3_ok nmX3 hown hK hP hD hS (List.mem_append_left _ (List.mem_append_left _ (List.mem_append_left _ (List.mem_append_left _ hh)))) (va_up_self _ _ _) rfl 5 (by decide) hw_7 (fun _ h9 => h9) rfl hin9 rfl (by decide +kernel) rfl rfl (Nat.le_of_ble_eq_true rfl) dX3_init_26 (fun H locs hP hD hS => ?_)
  rw [bx_uu] at hP hD
  have hP : va_P D vwCl (va_pl (L ++ [qar2] ++ [rar2] ++ [qbr2] ++ [rbr2]) (va_up Fr2 h (.inr (2, [.int (zI (1 + max d1 d2)), .int ((n1 ||| n2) ||| pw z1.toNat), .ref qar2, .ref qbr2, .ref o1, .ref o2, .int (0)])))) H := hP
  have hD : va_D A (va_pl (L ++ [qar2] ++ [rar2] ++ [qbr2] ++ [rbr2]) (va_up Fr2 h (.inr (2, [.int (zI (1 + max d1 d2)), .int ((n1 ||| n2) ||| pw z1.toNat), .ref qar2, .ref qbr2, .ref o1, .ref o2, .int (0)])))) := hD
  refine lv_aload_n hx hb dX3_init_29 rfl (lv_at hl 0 rfl) ?_
  refine lv_iload hx hb dX3_init_30 (lv_at hl 4 rfl) ?_
  refine pl_putF (ci := 2) (v := .int (x)) (ty := .int) (C := RX3) (T := TX3) (N := 7) hx hb hts hi_X3 tyX3 tyX3_ok nmX3 hown hK hP hD hS (List.mem_append_left _ (List.mem_append_left _ (List.mem_append_left _ (List.mem_append_left _ hh)))) (va_up_self _ _ _) rfl 6 (by decide) hw_8 (fun _ h9 => h9) rfl hin9 rfl (by decide +kernel) rfl rfl (Nat.le_of_ble_eq_true rfl) dX3_init_32 (fun H locs hP hD hS => ?_)
  rw [bx_uu] at hP hD
  have hP : va_P D vwCl (va_pl (L ++ [qar2] ++ [rar2] ++ [qbr2] ++ [rbr2]) (va_up Fr2 h (.inr (2, [.int (zI (1 + max d1 d2)), .int ((n1 ||| n2) ||| pw z1.toNat), .ref qar2, .ref qbr2, .ref o1, .ref o2, .int (x)])))) H := hP
  have hD : va_D A (va_pl (L ++ [qar2] ++ [rar2] ++ [qbr2] ++ [rbr2]) (va_up Fr2 h (.inr (2, [.int (zI (1 + max d1 d2)), .int ((n1 ||| n2) ||| pw z1.toNat), .ref qar2, .ref qbr2, .ref o1, .ref o2, .int (x)])))) := hD
  rw [hQ]
  exact pc_vret hx hb hrt hP (by rw [← hAd]; exact hD) (by rw [← hAd]; exact hS) (⟨qar2, hqar2, rar2, hrar2, qbr2, hqbr2, rbr2, hrbr2, _, rfl, (va_up_self _ _ _), ((va_up_ne _ _ (Ne.symm (ne_new hh hqar2))).trans hFar2), ((va_up_ne _ _ (Ne.symm (ne_new (List.mem_append_left _ hh) hrar2))).trans hFbr2), ((va_up_ne _ _ (Ne.symm (ne_new (List.mem_append_left _ (List.mem_append_left _ hh)) hqbr2))).trans hFcr2), ((va_up_ne _ _ (Ne.symm (ne_new (List.mem_append_left _ (List.mem_append_left _ (List.mem_append_left _ hh))) hrbr2))).trans hFdr2), fun a9 ha9 hne9 => ((va_up_ne _ _ hne9).trans ((hFor2 _ ha9 hne9).trans rfl))⟩) dX3_init_35 hlocks

set_option maxHeartbeats 4000000 in
set_option maxRecDepth 100000 in
theorem kX4_init (l : Launch) (D : va_G) (k : Nat → ClassId) (L : List Nat) (f : Nat → va_E) (h : Nat) (hh : h ∈ L) (hfh : f h = .inr (3, [.int (0), .int (0), .null, .null, .null, .int (0)])) (z1 : Int) (hz1 : 0 ≤ z1 ∧ z1 ≤ 30) (o1 : Nat) (d1 : Int) (n1 : Int32) (gs1 as1 : Nat) (hd1 : -100 ≤ d1 ∧ d1 ≤ 100) (ho1 : o1 ∈ L) (hx1 : exAt f o1 (zI d1) n1 gs1 as1) (hne1 : o1 ≠ h) (b9 : Bool) (n0 sz : Nat) : Met l yX4_init wsX4_init ({ frames := 3, cells := 4, slots := 50, locals := 55 } : Room) (va_Pc [.ref h, .int (zI (z1)), .ref o1, .int (bI (b9))] (pPre D (tyL k) n0 (va_pl L f) sz)) (va_Qv (fun u => ∃ q1, q1 ∉ L ∧ ∃ r1, r1 ∉ (L ++ [q1]) ∧ ∃ q2, q2 ∉ (L ++ [q1] ++ [r1]) ∧ ∃ r2, r2 ∉ (L ++ [q1] ++ [r1] ++ [q2]) ∧ ∃ F, u = va_pl (L ++ [q1] ++ [r1] ++ [q2] ++ [r2]) F ∧ F h = .inr (3, [.int (zI (1 + max d1 d1)), .int (n1 ||| pw z1.toNat), .ref q1, .ref q2, .ref o1, .int (bI b9)]) ∧ F q1 = .inr (5, [.ref r1]) ∧ F r1 = .inl (k 0, 24, .inl (fun _ => 0)) ∧ F q2 = .inr (5, [.ref r2]) ∧ F r2 = .inl (k 0, 24, .inl (fun _ => 0)) ∧ ∀ a, a ∈ L → a ≠ h → F a = f a) (pB D (va_pl L f) sz) (va_A (va_pl L f) sz)) 4 50 (va_A (va_pl L f) sz) := by
  refine Met.ofW (cc := cX4_init) (maxL := 4) (ret := none) (by decide) rfl ?_
  intro p e s m args below meth c s₁ B hml hv
  obtain ⟨rfl, hsz, hn9, hP, hC, hD0⟩ := hv
  have hK := hC.1
  have hNW := hC.2.1
  have hx := B.exec
  have hb := B.bytes
  have hrt := B.returns
  have hts := atoms_spec (ws := wsX4_init) B.pre
  have hown : s.vm.findClass RX4 = some m.cls := findClass_of_methodNamed B.named
  have hlocks := B.notSynchronized
  have hin9 : meth.name = "<init>" := (name_of_methodNamed B.named B.method).1
  subst hsz
  obtain ⟨A, hAd⟩ : ∃ A, A = va_A (va_pl L f) s.heap.size := ⟨_, rfl⟩
  have hD := hD0.self (sz := s.heap.size)
  rw [← hAd] at hD
  have hA : ∀ q : Nat, s.heap.size ≤ q → A q := fun q h => by rw [hAd]; exact Or.inr h
  have hAn : ∀ q : Nat, A q → n0 ≤ q := fun q h => by
    rw [hAd] at h
    rcases h with ⟨k9, e9, hk9⟩ | h
    · exact hD0.2 k9 _ hk9
    · exact Nat.le_trans hn9 h
  have hS : va_S A s.heap s.heap [] := va_S.rf
  have hi_X1 : ∀ w ∈ u_ws RX1 TX1 5, w ∈ wsX4_init := by decide +kernel
  have hi_X2 : ∀ w ∈ u_ws RX2 TX2 5, w ∈ wsX4_init := by decide +kernel
  have hi_X3 : ∀ w ∈ u_ws RX3 TX3 7, w ∈ wsX4_init := by decide +kernel
  have hi_X4 : ∀ w ∈ u_ws RX4 TX4 6, w ∈ wsX4_init := by decide +kernel
  have hi_X5 : ∀ w ∈ u_ws RX5 TX5 7, w ∈ wsX4_init := by decide +kernel
  have hi_X7 : ∀ w ∈ u_ws RX7 TX7 7, w ∈ wsX4_init := by decide +kernel
  have hw_0 := hts (.initialized RX9) (by decide +kernel)
  have hw_1 := hts (.static yX9_depthAbove) (by decide +kernel)
  have hw_2 := hts (.fieldLink RX4 7 "Regionry$Expression" "needed" "I") (by decide +kernel)
  have hw_3 := hts (.initialized RX0) (by decide +kernel)
  have hw_4 := hts (.methodLink RX4 13 yX0_init) (by decide +kernel)
  have hw_5 := hts (.instanceMethod yX0_init) (by decide +kernel)
  have hw_6 := hts (.fieldLink RX4 17 "Regionry$OnlyExpression" "part" "LRegionry$Expression;") (by decide +kernel)
  have hw_7 := hts (.fieldLink RX4 23 "Regionry$OnlyExpression" "isOuter" "Z") (by decide +kernel)
  have hl := lv_entry ([.ref h, .int (zI (z1)), .ref o1, .int (bI (b9))]) (n := 4) (Nat.le_of_ble_eq_true rfl)
  rw [lg_entry_eq]
  generalize (lg_sl ([.ref h, .int (zI (z1)), .ref o1, .int (bI (b9))]) ++ List.replicate (4 - (lg_sl ([.ref h, .int (zI (z1)), .ref o1, .int (bI (b9))])).length) Slot.unset).toArray = ls at hl ⊢
  have hl : lv_has ls 4 [(0, .ref h), (1, .int (zI (z1))), (2, .ref o1), (3, .int (bI (b9)))] := hl
  obtain ⟨Q, hQ⟩ : ∃ Q, Q = MQ below (va_Qv (fun u => ∃ q1, q1 ∉ L ∧ ∃ r1, r1 ∉ (L ++ [q1]) ∧ ∃ q2, q2 ∉ (L ++ [q1] ++ [r1]) ∧ ∃ r2, r2 ∉ (L ++ [q1] ++ [r1] ++ [q2]) ∧ ∃ F, u = va_pl (L ++ [q1] ++ [r1] ++ [q2] ++ [r2]) F ∧ F h = .inr (3, [.int (zI (1 + max d1 d1)), .int (n1 ||| pw z1.toNat), .ref q1, .ref q2, .ref o1, .int (bI b9)]) ∧ F q1 = .inr (5, [.ref r1]) ∧ F r1 = .inl (k 0, 24, .inl (fun _ => 0)) ∧ F q2 = .inr (5, [.ref r2]) ∧ F r2 = .inl (k 0, 24, .inl (fun _ => 0)) ∧ ∀ a, a ∈ L → a ≠ h → F a = f a) (pB D (va_pl L f) s.heap.size) (va_A (va_pl L f) s.heap.size)) ([.ref h, .int (zI (z1)), .ref o1, .int (bI (b9))] : List Value).toArray s 4 50 (va_A (va_pl L f) s.heap.size) := ⟨_, rfl⟩
  rw [← hQ]
  refine lv_aload_n hx hb dX4_init_0 rfl (lv_at hl 0 rfl) ?_
  refine lv_iload_n hx hb dX4_init_1 rfl (lv_at hl 1 rfl) ?_
  refine lv_aload_n hx hb dX4_init_2 rfl (lv_at hl 2 rfl) ?_
  refine lv_aload_n hx hb dX4_init_3 rfl (lv_at hl 2 rfl) ?_
  refine vp_callSi (va_Run.run (va_runSN (As := [.ref o1, .ref o1]) (rest := [.int (zI (z1)), .ref h]) ⟨hx, hb, hml, hown, hts⟩ (kX9_depthAbove l D k L f o1 d1 n1 gs1 as1 (by omega) ho1 hx1 o1 d1 n1 gs1 as1 (by omega) ho1 hx1) ⟨va_cnB 2 hts gX4_init_X9_depthAbove_n1 rfl rfl rfl (hNW (.methodLinkNest RX4 1 yX9_depthAbove "Regionry") (by decide +kernel)) hw_0 (by decide +kernel) ⟨Nat.le_of_ble_eq_true rfl, Nat.le_of_ble_eq_true rfl⟩, hw_1, trivial⟩ (rc_preS hC hP) rfl rfl hl.1 rfl (lv_room (Nat.le_of_ble_eq_true rfl)) dX4_init_4 ⟨Nat.zero_le _, Nat.zero_le _⟩)) (fun r1 hr1 => ?_)
  subst hr1
  refine lv_aload_n hx hb dX4_init_7 rfl (lv_at hl 2 rfl) ?_
  refine pl_getE (v := .int (n1)) hx hb hts hi_X1 hi_X2 hi_X3 hi_X4 hi_X5 hi_X7 hown hK hP ho1 hx1 1 (by decide) hw_2 rfl dX4_init_8 ?_
  refine pc_callv (va_runI (As := [.int (zI (z1)), .int (zI (1 + max d1 d1)), .int (n1)]) (rest := []) ⟨hx, hb, hml, hown, hts⟩ (kX0_init l D k L f h 3 [.null, .int (0)] (by unfold exC; omega) hh hfh (z1) (by omega) (1 + max d1 d1) (by omega) n1 n0 _) (cwI 3 hts gX4_init_X0_init rfl rfl rfl hw_3 hw_4 hw_5 rfl (by decide +kernel) ⟨Nat.le_of_ble_eq_true rfl, Nat.le_of_ble_eq_true rfl⟩) (pc_preS hC hP (Nat.le_trans hn9 hS.1) hD hAn) rfl rfl hl.1 rfl (lv_room (Nat.le_of_ble_eq_true rfl)) dX4_init_11 ⟨Nat.le_of_ble_eq_true rfl, Nat.le_of_ble_eq_true rfl⟩) hD hS hA (fun ur2 H locs hr2 hP hD hS hzr2 => ?_)
  obtain ⟨qar2, hqar2, rar2, hrar2, qbr2, hqbr2, rbr2, hrbr2, Fr2, rfl, hFhr2, hFar2, hFbr2, hFcr2, hFdr2, hFor2⟩ := hr2
  refine lv_aload_n hx hb dX4_init_14 rfl (lv_at hl 0 rfl) ?_
  refine lv_aload_n hx hb dX4_init_15 rfl (lv_at hl 2 rfl) ?_
  refine pl_putF (ci := 3) (v := .ref o1) (ty := .object "Regionry$Expression") (C := RX4) (T := TX4) (N := 6) hx hb hts hi_X4 tyX4 tyX4_ok nmX4 hown hK hP hD hS (List.mem_append_left _ (List.mem_append_left _ (List.mem_append_left _ (List.mem_append_left _ hh)))) hFhr2 rfl 4 (by decide) hw_6 (fun _ h9 => h9) rfl hin9 rfl (by decide +kernel) rfl rfl (Nat.le_of_ble_eq_true rfl) dX4_init_16 (fun H locs hP hD hS => ?_)
  have hP : va_P D vwCl (va_pl (L ++ [qar2] ++ [rar2] ++ [qbr2] ++ [rbr2]) (va_up Fr2 h (.inr (3, [.int (zI (1 + max d1 d1)), .int (n1 ||| pw z1.toNat), .ref qar2, .ref qbr2, .ref o1, .int (0)])))) H := hP
  have hD : va_D A (va_pl (L ++ [qar2] ++ [rar2] ++ [qbr2] ++ [rbr2]) (va_up Fr2 h (.inr (3, [.int (zI (1 + max d1 d1)), .int (n1 ||| pw z1.toNat), .ref qar2, .ref qbr2, .ref o1, .int (0)])))) := hD
  refine lv_aload_n hx hb dX4_init_19 rfl (lv_at hl 0 rfl) ?_
  refine lv_iload_n hx hb dX4_init_20 rfl (lv_at hl 3 rfl) ?_
  refine pl_putF (ci := 3) (v := .int (bI (b9))) (ty := .boolean) (C := RX4) (T := TX4) (N := 6) hx hb hts hi_X4 tyX4 tyX4_ok nmX4 hown hK hP hD hS (List.mem_append_left _ (List.mem_append_left _ (List.mem_append_left _ (List.mem_append_left _ hh)))) (va_up_self _ _ _) rfl 5 (by decide) hw_7 (fun _ h9 => h9) rfl hin9 rfl (by decide +kernel) (bI_narrow _) (by cases b9 <;> rfl) (Nat.le_of_ble_eq_true rfl) dX4_init_21 (fun H locs hP hD hS => ?_)
  rw [bx_uu] at hP hD
  have hP : va_P D vwCl (va_pl (L ++ [qar2] ++ [rar2] ++ [qbr2] ++ [rbr2]) (va_up Fr2 h (.inr (3, [.int (zI (1 + max d1 d1)), .int (n1 ||| pw z1.toNat), .ref qar2, .ref qbr2, .ref o1, .int (bI (b9))])))) H := hP
  have hD : va_D A (va_pl (L ++ [qar2] ++ [rar2] ++ [qbr2] ++ [rbr2]) (va_up Fr2 h (.inr (3, [.int (zI (1 + max d1 d1)), .int (n1 ||| pw z1.toNat), .ref qar2, .ref qbr2, .ref o1, .int (bI (b9))])))) := hD
  rw [hQ]
  exact pc_vret hx hb hrt hP (by rw [← hAd]; exact hD) (by rw [← hAd]; exact hS) (⟨qar2, hqar2, rar2, hrar2, qbr2, hqbr2, rbr2, hrbr2, _, rfl, (va_up_self _ _ _), ((va_up_ne _ _ (Ne.symm (ne_new hh hqar2))).trans hFar2), ((va_up_ne _ _ (Ne.symm (ne_new (List.mem_append_left _ hh) hrar2))).trans hFbr2), ((va_up_ne _ _ (Ne.symm (ne_new (List.mem_append_left _ (List.mem_append_left _ hh)) hqbr2))).trans hFcr2), ((va_up_ne _ _ (Ne.symm (ne_new (List.mem_append_left _ (List.mem_append_left _ (List.mem_append_left _ hh))) hrbr2))).trans hFdr2), fun a9 ha9 hne9 => ((va_up_ne _ _ hne9).trans ((hFor2 _ ha9 hne9).trans rfl))⟩) dX4_init_24 hlocks

set_option maxHeartbeats 4000000 in
set_option maxRecDepth 100000 in
theorem kX5_init (l : Launch) (D : va_G) (k : Nat → ClassId) (L : List Nat) (f : Nat → va_E) (h : Nat) (hh : h ∈ L) (hfh : f h = .inr (4, [.int (0), .int (0), .null, .null, .int (0), .null, .null])) (z1 : Int) (hz1 : 0 ≤ z1 ∧ z1 ≤ 30) (x : Int32) (o1 : Nat) (d1 : Int) (n1 : Int32) (gs1 as1 : Nat) (hd1 : -100 ≤ d1 ∧ d1 ≤ 100) (ho1 : o1 ∈ L) (hx1 : exAt f o1 (zI d1) n1 gs1 as1) (o2 : Nat) (d2 : Int) (n2 : Int32) (gs2 as2 : Nat) (hd2 : -100 ≤ d2 ∧ d2 ≤ 100) (ho2 : o2 ∈ L) (hx2 : exAt f o2 (zI d2) n2 gs2 as2) (hne1 : o1 ≠ h) (hne2 : o2 ≠ h) (n0 sz : Nat) : Met l yX5_init wsX5_init ({ frames := 3, cells := 4, slots := 50, locals := 55 } : Room) (va_Pc [.ref h, .int (zI (z1)), .int (x), .ref o1, .ref o2] (pPre D (tyL k) n0 (va_pl L f) sz)) (va_Qv (fun u => ∃ q1, q1 ∉ L ∧ ∃ r1, r1 ∉ (L ++ [q1]) ∧ ∃ q2, q2 ∉ (L ++ [q1] ++ [r1]) ∧ ∃ r2, r2 ∉ (L ++ [q1] ++ [r1] ++ [q2]) ∧ ∃ F, u = va_pl (L ++ [q1] ++ [r1] ++ [q2] ++ [r2]) F ∧ F h = .inr (4, [.int (zI (1 + max d1 d2)), .int ((n1 ||| n2) ||| pw z1.toNat), .ref q1, .ref q2, .int x, .ref o1, .ref o2]) ∧ F q1 = .inr (5, [.ref r1]) ∧ F r1 = .inl (k 0, 24, .inl (fun _ => 0)) ∧ F q2 = .inr (5, [.ref r2]) ∧ F r2 = .inl (k 0, 24, .inl (fun _ => 0)) ∧ ∀ a, a ∈ L → a ≠ h → F a = f a) (pB D (va_pl L f) sz) (va_A (va_pl L f) sz)) 4 50 (va_A (va_pl L f) sz) := by
  refine Met.ofW (cc := cX5_init) (maxL := 5) (ret := none) (by decide) rfl ?_
  intro p e s m args below meth c s₁ B hml hv
  obtain ⟨rfl, hsz, hn9, hP, hC, hD0⟩ := hv
  have hK := hC.1
  have hNW := hC.2.1
  have hx := B.exec
  have hb := B.bytes
  have hrt := B.returns
  have hts := atoms_spec (ws := wsX5_init) B.pre
  have hown : s.vm.findClass RX5 = some m.cls := findClass_of_methodNamed B.named
  have hlocks := B.notSynchronized
  have hin9 : meth.name = "<init>" := (name_of_methodNamed B.named B.method).1
  subst hsz
  obtain ⟨A, hAd⟩ : ∃ A, A = va_A (va_pl L f) s.heap.size := ⟨_, rfl⟩
  have hD := hD0.self (sz := s.heap.size)
  rw [← hAd] at hD
  have hA : ∀ q : Nat, s.heap.size ≤ q → A q := fun q h => by rw [hAd]; exact Or.inr h
  have hAn : ∀ q : Nat, A q → n0 ≤ q := fun q h => by
    rw [hAd] at h
    rcases h with ⟨k9, e9, hk9⟩ | h
    · exact hD0.2 k9 _ hk9
    · exact Nat.le_trans hn9 h
  have hS : va_S A s.heap s.heap [] := va_S.rf
  have hi_X1 : ∀ w ∈ u_ws RX1 TX1 5, w ∈ wsX5_init := by decide +kernel
  have hi_X2 : ∀ w ∈ u_ws RX2 TX2 5, w ∈ wsX5_init := by decide +kernel
  have hi_X3 : ∀ w ∈ u_ws RX3 TX3 7, w ∈ wsX5_init := by decide +kernel
  have hi_X4 : ∀ w ∈ u_ws RX4 TX4 6, w ∈ wsX5_init := by decide +kernel
  have hi_X5 : ∀ w ∈ u_ws RX5 TX5 7, w ∈ wsX5_init := by decide +kernel
  have hi_X7 : ∀ w ∈ u_ws RX7 TX7 7, w ∈ wsX5_init := by decide +kernel
  have hw_0 := hts (.initialized RX9) (by decide +kernel)
  have hw_1 := hts (.static yX9_depthAbove) (by decide +kernel)
  have hw_2 := hts (.fieldLink RX5 7 "Regionry$Expression" "needed" "I") (by decide +kernel)
  have hw_3 := hts (.initialized RX0) (by decide +kernel)
  have hw_4 := hts (.methodLink RX5 13 yX0_init) (by decide +kernel)
  have hw_5 := hts (.instanceMethod yX0_init) (by decide +kernel)
  have hw_6 := hts (.fieldLink RX5 17 "Regionry$PairExpression" "operation" "I") (by decide +kernel)
  have hw_7 := hts (.fieldLink RX5 22 "Regionry$PairExpression" "one" "LRegionry$Expression;") (by decide +kernel)
  have hw_8 := hts (.fieldLink RX5 26 "Regionry$PairExpression" "other" "LRegionry$Expression;") (by decide +kernel)
  have hl := lv_entry ([.ref h, .int (zI (z1)), .int (x), .ref o1, .ref o2]) (n := 5) (Nat.le_of_ble_eq_true rfl)
  rw [lg_entry_eq]
  generalize (lg_sl ([.ref h, .int (zI (z1)), .int (x), .ref o1, .ref o2]) ++ List.replicate (5 - (lg_sl ([.ref h, .int (zI (z1)), .int (x), .ref o1, .ref o2])).length) Slot.unset).toArray = ls at hl ⊢
  have hl : lv_has ls 5 [(0, .ref h), (1, .int (zI (z1))), (2, .int (x)), (3, .ref o1), (4, .ref o2)] := hl
  obtain ⟨Q, hQ⟩ : ∃ Q, Q = MQ below (va_Qv (fun u => ∃ q1, q1 ∉ L ∧ ∃ r1, r1 ∉ (L ++ [q1]) ∧ ∃ q2, q2 ∉ (L ++ [q1] ++ [r1]) ∧ ∃ r2, r2 ∉ (L ++ [q1] ++ [r1] ++ [q2]) ∧ ∃ F, u = va_pl (L ++ [q1] ++ [r1] ++ [q2] ++ [r2]) F ∧ F h = .inr (4, [.int (zI (1 + max d1 d2)), .int ((n1 ||| n2) ||| pw z1.toNat), .ref q1, .ref q2, .int x, .ref o1, .ref o2]) ∧ F q1 = .inr (5, [.ref r1]) ∧ F r1 = .inl (k 0, 24, .inl (fun _ => 0)) ∧ F q2 = .inr (5, [.ref r2]) ∧ F r2 = .inl (k 0, 24, .inl (fun _ => 0)) ∧ ∀ a, a ∈ L → a ≠ h → F a = f a) (pB D (va_pl L f) s.heap.size) (va_A (va_pl L f) s.heap.size)) ([.ref h, .int (zI (z1)), .int (x), .ref o1, .ref o2] : List Value).toArray s 4 50 (va_A (va_pl L f) s.heap.size) := ⟨_, rfl⟩
  rw [← hQ]
  refine lv_aload_n hx hb dX5_init_0 rfl (lv_at hl 0 rfl) ?_
  refine lv_iload_n hx hb dX5_init_1 rfl (lv_at hl 1 rfl) ?_
  refine lv_aload_n hx hb dX5_init_2 rfl (lv_at hl 3 rfl) ?_
  refine lv_aload hx hb dX5_init_3 (lv_at hl 4 rfl) ?_
  refine vp_callSi (va_Run.run (va_runSN (As := [.ref o1, .ref o2]) (rest := [.int (zI (z1)), .ref h]) ⟨hx, hb, hml, hown, hts⟩ (kX9_depthAbove l D k L f o1 d1 n1 gs1 as1 (by omega) ho1 hx1 o2 d2 n2 gs2 as2 (by omega) ho2 hx2) ⟨va_cnB 2 hts gX5_init_X9_depthAbove_n3 rfl rfl rfl (hNW (.methodLinkNest RX5 3 yX9_depthAbove "Regionry") (by decide +kernel)) hw_0 (by decide +kernel) ⟨Nat.le_of_ble_eq_true rfl, Nat.le_of_ble_eq_true rfl⟩, hw_1, trivial⟩ (rc_preS hC hP) rfl rfl hl.1 rfl (lv_room (Nat.le_of_ble_eq_true rfl)) dX5_init_5 ⟨Nat.zero_le _, Nat.zero_le _⟩)) (fun r1 hr1 => ?_)
  subst hr1
  refine lv_aload_n hx hb dX5_init_8 rfl (lv_at hl 3 rfl) ?_
  refine pl_getE (v := .int (n1)) hx hb hts hi_X1 hi_X2 hi_X3 hi_X4 hi_X5 hi_X7 hown hK hP ho1 hx1 1 (by decide) hw_2 rfl dX5_init_9 ?_
  refine lv_aload hx hb dX5_init_12 (lv_at hl 4 rfl) ?_
  refine pl_getE (v := .int (n2)) hx hb hts hi_X1 hi_X2 hi_X3 hi_X4 hi_X5 hi_X7 hown hK hP ho2 hx2 1 (by decide) hw_2 rfl dX5_init_14 ?_
  refine lv_ior hx hb dX5_init_17 ?_
  refine pc_callv (va_runI (As := [.int (zI (z1)), .int (zI (1 + max d1 d2)), .int (n1 ||| n2)]) (rest := []) ⟨hx, hb, hml, hown, hts⟩ (kX0_init l D k L f h 4 [.int (0), .null, .null] (by unfold exC; omega) hh hfh (z1) (by omega) (1 + max d1 d2) (by omega) (n1 ||| n2) n0 _) (cwI 3 hts gX5_init_X0_init rfl rfl rfl hw_3 hw_4 hw_5 rfl (by decide +kernel) ⟨Nat.le_of_ble_eq_true rfl, Nat.le_of_ble_eq_true rfl⟩) (pc_preS hC hP (Nat.le_trans hn9 hS.1) hD hAn) rfl rfl hl.1 rfl (lv_room (Nat.le_of_ble_eq_true rfl)) dX5_init_18 ⟨Nat.le_of_ble_eq_true rfl, Nat.le_of_ble_eq_true rfl⟩) hD hS hA (fun ur2 H locs hr2 hP hD hS hzr2 => ?_)
  obtain ⟨qar2, hqar2, rar2, hrar2, qbr2, hqbr2, rbr2, hrbr2, Fr2, rfl, hFhr2, hFar2, hFbr2, hFcr2, hFdr2, hFor2⟩ := hr2
  refine lv_aload_n hx hb dX5_init_21 rfl (lv_at hl 0 rfl) ?_
  refine lv_iload_n hx hb dX5_init_22 rfl (lv_at hl 2 rfl) ?_
  refine pl_putF (ci := 4) (v := .int (x)) (ty := .int) (C := RX5) (T := TX5) (N := 7) hx hb hts hi_X5 tyX5 tyX5_ok nmX5 hown hK hP hD hS (List.mem_append_left _ (List.mem_append_left _ (List.mem_append_left _ (List.mem_append_left _ hh)))) hFhr2 rfl 4 (by decide) hw_6 (fun _ h9 => h9) rfl hin9 rfl (by decide +kernel) rfl rfl (Nat.le_of_ble_eq_true rfl) dX5_init_23 (fun H locs hP hD hS => ?_)
  have hP : va_P D vwCl (va_pl (L ++ [qar2] ++ [rar2] ++ [qbr2] ++ [rbr2]) (va_up Fr2 h (.inr (4, [.int (zI (1 + max d1 d2)), .int ((n1 ||| n2) ||| pw z1.toNat), .ref qar2, .ref qbr2, .int (x), .null, .null])))) H := hP
  have hD : va_D A (va_pl (L ++ [qar2] ++ [rar2] ++ [qbr2] ++ [rbr2]) (va_up Fr2 h (.inr (4, [.int (zI (1 + max d1 d2)), .int ((n1 ||| n2) ||| pw z1.toNat), .ref qar2, .ref qbr2, .int (x), .null, .null])))) := hD
  refine lv_aload_n hx hb dX5_init_26 rfl (lv_at hl 0 rfl) ?_
  refine lv_aload_n hx hb dX5_init_27 rfl (lv_at hl 3 rfl) ?_
  refine pl_putF (ci := 4) (v := .ref o1) (ty := .object "Regionry$Expression") (C := RX5) (T := TX5) (N := 7) hx hb hts hi_X5 tyX5 tyX5_ok nmX5 hown hK hP hD hS (List.mem_append_left _ (List.mem_append_left _ (List.mem_append_left _ (List.mem_append_left _ hh)))) (va_up_self _ _ _) rfl 5 (by decide) hw_7 (fun _ h9 => h9) rfl hin9 rfl (by decide +kernel) rfl rfl (Nat.le_of_ble_eq_true rfl) dX5_init_28 (fun H locs hP hD hS => ?_)
  rw [bx_uu] at hP hD
  have hP : va_P D vwCl (va_pl (L ++ [qar2] ++ [rar2] ++ [qbr2] ++ [rbr2]) (va_up Fr2 h (.inr (4, [.int (zI (1 + max d1 d2)), .int ((n1 ||| n2) ||| pw z1.toNat), .ref qar2, .ref qbr2, .int (x), .ref o1, .null])))) H := hP
  have hD : va_D A (va_pl (L ++ [qar2] ++ [rar2] ++ [qbr2] ++ [rbr2]) (va_up Fr2 h (.inr (4, [.int (zI (1 + max d1 d2)), .int ((n1 ||| n2) ||| pw z1.toNat), .ref qar2, .ref qbr2, .int (x), .ref o1, .null])))) := hD
  refine lv_aload_n hx hb dX5_init_31 rfl (lv_at hl 0 rfl) ?_
  refine lv_aload hx hb dX5_init_32 (lv_at hl 4 rfl) ?_
  refine pl_putF (ci := 4) (v := .ref o2) (ty := .object "Regionry$Expression") (C := RX5) (T := TX5) (N := 7) hx hb hts hi_X5 tyX5 tyX5_ok nmX5 hown hK hP hD hS (List.mem_append_left _ (List.mem_append_left _ (List.mem_append_left _ (List.mem_append_left _ hh)))) (va_up_self _ _ _) rfl 6 (by decide) hw_8 (fun _ h9 => h9) rfl hin9 rfl (by decide +kernel) rfl rfl (Nat.le_of_ble_eq_true rfl) dX5_init_34 (fun H locs hP hD hS => ?_)
  rw [bx_uu] at hP hD
  have hP : va_P D vwCl (va_pl (L ++ [qar2] ++ [rar2] ++ [qbr2] ++ [rbr2]) (va_up Fr2 h (.inr (4, [.int (zI (1 + max d1 d2)), .int ((n1 ||| n2) ||| pw z1.toNat), .ref qar2, .ref qbr2, .int (x), .ref o1, .ref o2])))) H := hP
  have hD : va_D A (va_pl (L ++ [qar2] ++ [rar2] ++ [qbr2] ++ [rbr2]) (va_up Fr2 h (.inr (4, [.int (zI (1 + max d1 d2)), .int ((n1 ||| n2) ||| pw z1.toNat), .ref qar2, .ref qbr2, .int (x), .ref o1, .ref o2])))) := hD
  rw [hQ]
  exact pc_vret hx hb hrt hP (by rw [← hAd]; exact hD) (by rw [← hAd]; exact hS) (⟨qar2, hqar2, rar2, hrar2, qbr2, hqbr2, rbr2, hrbr2, _, rfl, (va_up_self _ _ _), ((va_up_ne _ _ (Ne.symm (ne_new hh hqar2))).trans hFar2), ((va_up_ne _ _ (Ne.symm (ne_new (List.mem_append_left _ hh) hrar2))).trans hFbr2), ((va_up_ne _ _ (Ne.symm (ne_new (List.mem_append_left _ (List.mem_append_left _ hh)) hqbr2))).trans hFcr2), ((va_up_ne _ _ (Ne.symm (ne_new (List.mem_append_left _ (List.mem_append_left _ (List.mem_append_left _ hh))) hrbr2))).trans hFdr2), fun a9 ha9 hne9 => ((va_up_ne _ _ hne9).trans ((hFor2 _ ha9 hne9).trans rfl))⟩) dX5_init_37 hlocks

set_option maxHeartbeats 4000000 in
set_option maxRecDepth 100000 in
theorem kX7_init (l : Launch) (D : va_G) (k : Nat → ClassId) (L : List Nat) (f : Nat → va_E) (h : Nat) (hh : h ∈ L) (hfh : f h = .inr (6, [.int (0), .int (0), .null, .null, .null, .null, .null])) (z1 : Int) (hz1 : 0 ≤ z1 ∧ z1 ≤ 30) (o1 : Nat) (d1 : Int) (n1 : Int32) (gs1 as1 : Nat) (hd1 : -100 ≤ d1 ∧ d1 ≤ 100) (ho1 : o1 ∈ L) (hx1 : exAt f o1 (zI d1) n1 gs1 as1) (o2 : Nat) (d2 : Int) (n2 : Int32) (gs2 as2 : Nat) (hd2 : -100 ≤ d2 ∧ d2 ≤ 100) (ho2 : o2 ∈ L) (hx2 : exAt f o2 (zI d2) n2 gs2 as2) (hne1 : o1 ≠ h) (hne2 : o2 ≠ h) (n0 sz : Nat) : Met l yX7_init wsX7_init ({ frames := 3, cells := 6, slots := 75, locals := 55 } : Room) (va_Pc [.ref h, .int (zI (z1)), .ref o1, .ref o2] (pPre D (tyL k) n0 (va_pl L f) sz)) (va_Qv (fun u => ∃ q1, q1 ∉ L ∧ ∃ r1, r1 ∉ (L ++ [q1]) ∧ ∃ q2, q2 ∉ (L ++ [q1] ++ [r1]) ∧ ∃ r2, r2 ∉ (L ++ [q1] ++ [r1] ++ [q2]) ∧ ∃ q3, q3 ∉ (L ++ [q1] ++ [r1] ++ [q2] ++ [r2]) ∧ ∃ r3, r3 ∉ (L ++ [q1] ++ [r1] ++ [q2] ++ [r2] ++ [q3]) ∧ ∃ F, u = va_pl (L ++ [q1] ++ [r1] ++ [q2] ++ [r2] ++ [q3] ++ [r3]) F ∧ F h = .inr (6, [.int (zI (1 + max d1 d2)), .int ((n1 ||| n2) ||| pw z1.toNat), .ref q1, .ref q2, .ref o1, .ref o2, .ref q3]) ∧ F q1 = .inr (5, [.ref r1]) ∧ F r1 = .inl (k 0, 24, .inl (fun _ => 0)) ∧ F q2 = .inr (5, [.ref r2]) ∧ F r2 = .inl (k 0, 24, .inl (fun _ => 0)) ∧ F q3 = .inr (5, [.ref r3]) ∧ F r3 = .inl (k 0, 24, .inl (fun _ => 0)) ∧ ∀ a, a ∈ L → a ≠ h → F a = f a) (pB D (va_pl L f) sz) (va_A (va_pl L f) sz)) 6 75 (va_A (va_pl L f) sz) := by
  refine Met.ofW (cc := cX7_init) (maxL := 4) (ret := none) (by decide) rfl ?_
  intro p e s m args below meth c s₁ B hml hv
  obtain ⟨rfl, hsz, hn9, hP, hC, hD0⟩ := hv
  have hK := hC.1
  have hNW := hC.2.1
  have hx := B.exec
  have hb := B.bytes
  have hrt := B.returns
  have hts := atoms_spec (ws := wsX7_init) B.pre
  have hown : s.vm.findClass RX7 = some m.cls := findClass_of_methodNamed B.named
  have hlocks := B.notSynchronized
  have hin9 : meth.name = "<init>" := (name_of_methodNamed B.named B.method).1
  subst hsz
  obtain ⟨A, hAd⟩ : ∃ A, A = va_A (va_pl L f) s.heap.size := ⟨_, rfl⟩
  have hD := hD0.self (sz := s.heap.size)
  rw [← hAd] at hD
  have hA : ∀ q : Nat, s.heap.size ≤ q → A q := fun q h => by rw [hAd]; exact Or.inr h
  have hAn : ∀ q : Nat, A q → n0 ≤ q := fun q h => by
    rw [hAd] at h
    rcases h with ⟨k9, e9, hk9⟩ | h
    · exact hD0.2 k9 _ hk9
    · exact Nat.le_trans hn9 h
  have hS : va_S A s.heap s.heap [] := va_S.rf
  have hi_X1 : ∀ w ∈ u_ws RX1 TX1 5, w ∈ wsX7_init := by decide +kernel
  have hi_X2 : ∀ w ∈ u_ws RX2 TX2 5, w ∈ wsX7_init := by decide +kernel
  have hi_X3 : ∀ w ∈ u_ws RX3 TX3 7, w ∈ wsX7_init := by decide +kernel
  have hi_X4 : ∀ w ∈ u_ws RX4 TX4 6, w ∈ wsX7_init := by decide +kernel
  have hi_X5 : ∀ w ∈ u_ws RX5 TX5 7, w ∈ wsX7_init := by decide +kernel
  have hi_X7 : ∀ w ∈ u_ws RX7 TX7 7, w ∈ wsX7_init := by decide +kernel
  have hi_X6 : ∀ w ∈ u_ws RX6 TX6 1, w ∈ wsX7_init := by decide +kernel
  have hw_0 := hts (.initialized RX9) (by decide +kernel)
  have hw_1 := hts (.static yX9_depthAbove) (by decide +kernel)
  have hw_2 := hts (.fieldLink RX7 7 "Regionry$Expression" "needed" "I") (by decide +kernel)
  have hw_3 := hts (.initialized RX0) (by decide +kernel)
  have hw_4 := hts (.methodLink RX7 13 yX0_init) (by decide +kernel)
  have hw_5 := hts (.instanceMethod yX0_init) (by decide +kernel)
  have hw_6 := hts (.classLink RX7 17 RX6) (by decide +kernel)
  have hw_7 := hts (.instantiable RX6 1) (by decide +kernel)
  have hw_8 := hts (.initialized RX6) (by decide +kernel)
  have hw_9 := hts (.instanceMethod yX6_init) (by decide +kernel)
  have hw_10 := hts (.fieldLink RX7 22 "Regionry$SpanExpression" "joined" "LRegionry$RegionSet;") (by decide +kernel)
  have hw_11 := hts (.fieldLink RX7 28 "Regionry$SpanExpression" "one" "LRegionry$Expression;") (by decide +kernel)
  have hw_12 := hts (.fieldLink RX7 32 "Regionry$SpanExpression" "other" "LRegionry$Expression;") (by decide +kernel)
  have hl := lv_entry ([.ref h, .int (zI (z1)), .ref o1, .ref o2]) (n := 4) (Nat.le_of_ble_eq_true rfl)
  rw [lg_entry_eq]
  generalize (lg_sl ([.ref h, .int (zI (z1)), .ref o1, .ref o2]) ++ List.replicate (4 - (lg_sl ([.ref h, .int (zI (z1)), .ref o1, .ref o2])).length) Slot.unset).toArray = ls at hl ⊢
  have hl : lv_has ls 4 [(0, .ref h), (1, .int (zI (z1))), (2, .ref o1), (3, .ref o2)] := hl
  obtain ⟨Q, hQ⟩ : ∃ Q, Q = MQ below (va_Qv (fun u => ∃ q1, q1 ∉ L ∧ ∃ r1, r1 ∉ (L ++ [q1]) ∧ ∃ q2, q2 ∉ (L ++ [q1] ++ [r1]) ∧ ∃ r2, r2 ∉ (L ++ [q1] ++ [r1] ++ [q2]) ∧ ∃ q3, q3 ∉ (L ++ [q1] ++ [r1] ++ [q2] ++ [r2]) ∧ ∃ r3, r3 ∉ (L ++ [q1] ++ [r1] ++ [q2] ++ [r2] ++ [q3]) ∧ ∃ F, u = va_pl (L ++ [q1] ++ [r1] ++ [q2] ++ [r2] ++ [q3] ++ [r3]) F ∧ F h = .inr (6, [.int (zI (1 + max d1 d2)), .int ((n1 ||| n2) ||| pw z1.toNat), .ref q1, .ref q2, .ref o1, .ref o2, .ref q3]) ∧ F q1 = .inr (5, [.ref r1]) ∧ F r1 = .inl (k 0, 24, .inl (fun _ => 0)) ∧ F q2 = .inr (5, [.ref r2]) ∧ F r2 = .inl (k 0, 24, .inl (fun _ => 0)) ∧ F q3 = .inr (5, [.ref r3]) ∧ F r3 = .inl (k 0, 24, .inl (fun _ => 0)) ∧ ∀ a, a ∈ L → a ≠ h → F a = f a) (pB D (va_pl L f) s.heap.size) (va_A (va_pl L f) s.heap.size)) ([.ref h, .int (zI (z1)), .ref o1, .ref o2] : List Value).toArray s 6 75 (va_A (va_pl L f) s.heap.size) := ⟨_, rfl⟩
  rw [← hQ]
  refine lv_aload_n hx hb dX7_init_0 rfl (lv_at hl 0 rfl) ?_
  refine lv_iload_n hx hb dX7_init_1 rfl (lv_at hl 1 rfl) ?_
  refine lv_aload_n hx hb dX7_init_2 rfl (lv_at hl 2 rfl) ?_
  refine lv_aload_n hx hb dX7_init_3 rfl (lv_at hl 3 rfl) ?_
  refine vp_callSi (va_Run.run (va_runSN (As := [.ref o1, .ref o2]) (rest := [.int (zI (z1)), .ref h]) ⟨hx, hb, hml, hown, hts⟩ (kX9_depthAbove l D k L f o1 d1 n1 gs1 as1 (by omega) ho1 hx1 o2 d2 n2 gs2 as2 (by omega) ho2 hx2) ⟨va_cnB 2 hts gX7_init_X9_depthAbove_n3 rfl rfl rfl (hNW (.methodLinkNest RX7 3 yX9_depthAbove "Regionry") (by decide +kernel)) hw_0 (by decide +kernel) ⟨Nat.le_of_ble_eq_true rfl, Nat.le_of_ble_eq_true rfl⟩, hw_1, trivial⟩ (rc_preS hC hP) rfl rfl hl.1 rfl (lv_room (Nat.le_of_ble_eq_true rfl)) dX7_init_4 ⟨Nat.zero_le _, Nat.zero_le _⟩)) (fun r1 hr1 => ?_)
  subst hr1
  refine lv_aload_n hx hb dX7_init_7 rfl (lv_at hl 2 rfl) ?_
  refine pl_getE (v := .int (n1)) hx hb hts hi_X1 hi_X2 hi_X3 hi_X4 hi_X5 hi_X7 hown hK hP ho1 hx1 1 (by decide) hw_2 rfl dX7_init_8 ?_
  refine lv_aload_n hx hb dX7_init_11 rfl (lv_at hl 3 rfl) ?_
  refine pl_getE (v := .int (n2)) hx hb hts hi_X1 hi_X2 hi_X3 hi_X4 hi_X5 hi_X7 hown hK hP ho2 hx2 1 (by decide) hw_2 rfl dX7_init_12 ?_
  refine lv_ior hx hb dX7_init_15 ?_
  refine pc_callv (va_runI (As := [.int (zI (z1)), .int (zI (1 + max d1 d2)), .int (n1 ||| n2)]) (rest := []) ⟨hx, hb, hml, hown, hts⟩ (kX0_init l D k L f h 6 [.null, .null, .null] (by unfold exC; omega) hh hfh (z1) (by omega) (1 + max d1 d2) (by omega) (n1 ||| n2) n0 _) (cwI 3 hts gX7_init_X0_init rfl rfl rfl hw_3 hw_4 hw_5 rfl (by decide +kernel) ⟨Nat.le_of_ble_eq_true rfl, Nat.le_of_ble_eq_true rfl⟩) (pc_preS hC hP (Nat.le_trans hn9 hS.1) hD hAn) rfl rfl hl.1 rfl (lv_room (Nat.le_of_ble_eq_true rfl)) dX7_init_16 ⟨Nat.le_of_ble_eq_true rfl, Nat.le_of_ble_eq_true rfl⟩) hD hS hA (fun ur2 H locs hr2 hP hD hS hzr2 => ?_)
  obtain ⟨qar2, hqar2, rar2, hrar2, qbr2, hqbr2, rbr2, hrbr2, Fr2, rfl, hFhr2, hFar2, hFbr2, hFcr2, hFdr2, hFor2⟩ := hr2
  refine lv_aload_n hx hb dX7_init_19 rfl (lv_at hl 0 rfl) ?_
  refine pl_obj (ci := 5) (fs := [.null]) (C := RX6) (T := TX6) (N := 1) hx hb hts hi_X6 tyX6 tyX6_ok hown hw_6 hw_7 hw_8 hK hP hD hS hA rfl (fun j hj => by rcases (show j = 0 by omega) with rfl <;> rfl) (Nat.le_of_ble_eq_true rfl) (Nat.le_of_ble_eq_true rfl) dX7_init_20 (fun q3 H hq3 hP hD hS => ?_)
  have hP : va_P D vwCl (va_pl (L ++ [qar2] ++ [rar2] ++ [qbr2] ++ [rbr2] ++ [q3]) (va_up Fr2 q3 (.inr (5, [.null])))) H := hP
  have hD : va_D A (va_pl (L ++ [qar2] ++ [rar2] ++ [qbr2] ++ [rbr2] ++ [q3]) (va_up Fr2 q3 (.inr (5, [.null])))) := hD
  refine lv_dup hx hb dX7_init_23 rfl ?_
  refine pc_callv (va_runIN (As := []) (rest := [.ref q3, .ref h]) ⟨hx, hb, hml, hown, hts⟩ (kX6_init l D k (L ++ [qar2] ++ [rar2] ++ [qbr2] ++ [rbr2] ++ [q3]) (va_up Fr2 q3 (.inr (5, [.null]))) q3 (List.mem_append_right _ (List.mem_singleton.mpr rfl)) (va_up_self _ _ _) n0 _) ⟨va_cnB 0 hts gX7_init_X6_init_n19 rfl rfl rfl (hNW (.methodLinkNest RX7 19 yX6_init "Regionry") (by decide +kernel)) hw_8 (by decide +kernel) ⟨Nat.le_of_ble_eq_true rfl, Nat.le_of_ble_eq_true rfl⟩, rfl, hw_9⟩ (pc_preS hC hP (Nat.le_trans hn9 hS.1) hD hAn) rfl rfl hl.1 rfl (lv_room (Nat.le_of_ble_eq_true rfl)) dX7_init_24 ⟨Nat.le_of_ble_eq_true rfl, Nat.le_of_ble_eq_true rfl⟩) hD hS hA (fun ur4 H locs hr4 hP hD hS hzr4 => ?_)
  obtain ⟨qr4, hqr4, Fr4, rfl, hFhr4, hFqr4, hFor4⟩ := hr4
  refine pl_putF (ci := 6) (v := .ref q3) (ty := .object "Regionry$RegionSet") (C := RX7) (T := TX7) (N := 7) hx hb hts hi_X7 tyX7 tyX7_ok nmX7 hown hK hP hD hS (List.mem_append_left _ (List.mem_append_left _ (List.mem_append_left _ (List.mem_append_left _ (List.mem_append_left _ (List.mem_append_left _ hh)))))) ((hFor4 _ (List.mem_append_left _ (List.mem_append_left _ (List.mem_append_left _ (List.mem_append_left _ (List.mem_append_left _ hh))))) (ne_new (List.mem_append_left _ (List.mem_append_left _ (List.mem_append_left _ (List.mem_append_left _ hh)))) hq3)).trans ((va_up_ne _ _ (ne_new (List.mem_append_left _ (List.mem_append_left _ (List.mem_append_left _ (List.mem_append_left _ hh)))) hq3)).trans hFhr2)) rfl 6 (by decide) hw_10 (fun _ h9 => h9) rfl hin9 rfl (by decide +kernel) rfl rfl (Nat.le_of_ble_eq_true rfl) dX7_init_27 (fun H locs hP hD hS => ?_)
  have hP : va_P D vwCl (va_pl (L ++ [qar2] ++ [rar2] ++ [qbr2] ++ [rbr2] ++ [q3] ++ [qr4]) (va_up Fr4 h (.inr (6, [.int (zI (1 + max d1 d2)), .int ((n1 ||| n2) ||| pw z1.toNat), .ref qar2, .ref qbr2, .null, .null, .ref q3])))) H := hP
  have hD : va_D A (va_pl (L ++ [qar2] ++ [rar2] ++ [qbr2] ++ [rbr2] ++ [q3] ++ [qr4]) (va_up Fr4 h (.inr (6, [.int (zI (1 + max d1 d2)), .int ((n1 ||| n2) ||| pw z1.toNat), .ref qar2, .ref qbr2, .null, .null, .ref q3])))) := hD
  refine lv_aload_n hx hb dX7_init_30 rfl (lv_at hl 0 rfl) ?_
  refine lv_aload_n hx hb dX7_init_31 rfl (lv_at hl 2 rfl) ?_
  refine pl_putF (ci := 6) (v := .ref o1) (ty := .object "Regionry$Expression") (C := RX7) (T := TX7) (N := 7) hx hb hts hi_X7 tyX7 tyX7_ok nmX7 hown hK hP hD hS (List.mem_append_left _ (List.mem_append_left _ (List.mem_append_left _ (List.mem_append_left _ (List.mem_append_left _ (List.mem_append_left _ hh)))))) (va_up_self _ _ _) rfl 4 (by decide) hw_11 (fun _ h9 => h9) rfl hin9 rfl (by decide +kernel) rfl rfl (Nat.le_of_ble_eq_true rfl) dX7_init_32 (fun H locs hP hD hS => ?_)
  rw [bx_uu] at hP hD
  have hP : va_P D vwCl (va_pl (L ++ [qar2] ++ [rar2] ++ [qbr2] ++ [rbr2] ++ [q3] ++ [qr4]) (va_up Fr4 h (.inr (6, [.int (zI (1 + max d1 d2)), .int ((n1 ||| n2) ||| pw z1.toNat), .ref qar2, .ref qbr2, .ref o1, .null, .ref q3])))) H := hP
  have hD : va_D A (va_pl (L ++ [qar2] ++ [rar2] ++ [qbr2] ++ [rbr2] ++ [q3] ++ [qr4]) (va_up Fr4 h (.inr (6, [.int (zI (1 + max d1 d2)), .int ((n1 ||| n2) ||| pw z1.toNat), .ref qar2, .ref qbr2, .ref o1, .null, .ref q3])))) := hD
  refine lv_aload_n hx hb dX7_init_35 rfl (lv_at hl 0 rfl) ?_
  refine lv_aload_n hx hb dX7_init_36 rfl (lv_at hl 3 rfl) ?_
  refine pl_putF (ci := 6) (v := .ref o2) (ty := .object "Regionry$Expression") (C := RX7) (T := TX7) (N := 7) hx hb hts hi_X7 tyX7 tyX7_ok nmX7 hown hK hP hD hS (List.mem_append_left _ (List.mem_append_left _ (List.mem_append_left _ (List.mem_append_left _ (List.mem_append_left _ (List.mem_append_left _ hh)))))) (va_up_self _ _ _) rfl 5 (by decide) hw_12 (fun _ h9 => h9) rfl hin9 rfl (by decide +kernel) rfl rfl (Nat.le_of_ble_eq_true rfl) dX7_init_37 (fun H locs hP hD hS => ?_)
  rw [bx_uu] at hP hD
  have hP : va_P D vwCl (va_pl (L ++ [qar2] ++ [rar2] ++ [qbr2] ++ [rbr2] ++ [q3] ++ [qr4]) (va_up Fr4 h (.inr (6, [.int (zI (1 + max d1 d2)), .int ((n1 ||| n2) ||| pw z1.toNat), .ref qar2, .ref qbr2, .ref o1, .ref o2, .ref q3])))) H := hP
  have hD : va_D A (va_pl (L ++ [qar2] ++ [rar2] ++ [qbr2] ++ [rbr2] ++ [q3] ++ [qr4]) (va_up Fr4 h (.inr (6, [.int (zI (1 + max d1 d2)), .int ((n1 ||| n2) ||| pw z1.toNat), .ref qar2, .ref qbr2, .ref o1, .ref o2, .ref q3])))) := hD
  rw [hQ]
  exact pc_vret hx hb hrt hP (by rw [← hAd]; exact hD) (by rw [← hAd]; exact hS) (⟨qar2, hqar2, rar2, hrar2, qbr2, hqbr2, rbr2, hrbr2, q3, hq3, qr4, hqr4, _, rfl, (va_up_self _ _ _), ((va_up_ne _ _ (Ne.symm (ne_new hh hqar2))).trans ((hFor4 _ (List.mem_append_left _ (List.mem_append_left _ (List.mem_append_left _ (List.mem_append_left _ (List.mem_append_right _ (List.mem_singleton.mpr rfl)))))) (ne_new (List.mem_append_left _ (List.mem_append_left _ (List.mem_append_left _ (List.mem_append_right _ (List.mem_singleton.mpr rfl))))) hq3)).trans ((va_up_ne _ _ (ne_new (List.mem_append_left _ (List.mem_append_left _ (List.mem_append_left _ (List.mem_append_right _ (List.mem_singleton.mpr rfl))))) hq3)).trans hFar2))), ((va_up_ne _ _ (Ne.symm (ne_new (List.mem_append_left _ hh) hrar2))).trans ((hFor4 _ (List.mem_append_left _ (List.mem_append_left _ (List.mem_append_left _ (List.mem_append_right _ (List.mem_singleton.mpr rfl))))) (ne_new (List.mem_append_left _ (List.mem_append_left _ (List.mem_append_right _ (List.mem_singleton.mpr rfl)))) hq3)).trans ((va_up_ne _ _ (ne_new (List.mem_append_left _ (List.mem_append_left _ (List.mem_append_right _ (List.mem_singleton.mpr rfl)))) hq3)).trans hFbr2))), ((va_up_ne _ _ (Ne.symm (ne_new (List.mem_append_left _ (List.mem_append_left _ hh)) hqbr2))).trans ((hFor4 _ (List.mem_append_left _ (List.mem_append_left _ (List.mem_append_right _ (List.mem_singleton.mpr rfl)))) (ne_new (List.mem_append_left _ (List.mem_append_right _ (List.mem_singleton.mpr rfl))) hq3)).trans ((va_up_ne _ _ (ne_new (List.mem_append_left _ (List.mem_append_right _ (List.mem_singleton.mpr rfl))) hq3)).trans hFcr2))), ((va_up_ne _ _ (Ne.symm (ne_new (List.mem_append_left _ (List.mem_append_left _ (List.mem_append_left _ hh))) hrbr2))).trans ((hFor4 _ (List.mem_append_left _ (List.mem_append_right _ (List.mem_singleton.mpr rfl))) (ne_new (List.mem_append_right _ (List.mem_singleton.mpr rfl)) hq3)).trans ((va_up_ne _ _ (ne_new (List.mem_append_right _ (List.mem_singleton.mpr rfl)) hq3)).trans hFdr2))), ((va_up_ne _ _ (Ne.symm (ne_new (List.mem_append_left _ (List.mem_append_left _ (List.mem_append_left _ (List.mem_append_left _ hh)))) hq3))).trans hFhr4), ((va_up_ne _ _ (Ne.symm (ne_new (List.mem_append_left _ (List.mem_append_left _ (List.mem_append_left _ (List.mem_append_left _ (List.mem_append_left _ hh))))) hqr4))).trans hFqr4), fun a9 ha9 hne9 => ((va_up_ne _ _ hne9).trans ((hFor4 _ (List.mem_append_left _ (List.mem_append_left _ (List.mem_append_left _ (List.mem_append_left _ (List.mem_append_left _ ha9))))) (ne_new (List.mem_append_left _ (List.mem_append_left _ (List.mem_append_left _ (List.mem_append_left _ ha9)))) hq3)).trans ((va_up_ne _ _ (ne_new (List.mem_append_left _ (List.mem_append_left _ (List.mem_append_left _ (List.mem_append_left _ ha9)))) hq3)).trans ((hFor2 _ ha9 hne9).trans rfl))))⟩) dX7_init_40 hlocks
