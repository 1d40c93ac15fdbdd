set_option maxHeartbeats 4000000 in
set_option maxRecDepth 100000 in
theorem kX6_endsOpenedAt (l : Launch) (D : va_G) (k : Nat → ClassId) (L : List Nat) (f : Nat → va_E) (z : Int) (hz : -800 ≤ z ∧ z ≤ 900) (x : Int32) : Met l yX6_endsOpenedAt wsX6_endsOpenedAt ({ frames := 2, cells := 0, slots := 0, locals := 40 } : Room) (va_Pc [.int (zI (z)), .int (x)] (rPre D (tyL k) (va_pl L f))) (vp_Si (fun r9 => r9 = eoM z x)) 0 0 (fun _ => False) := by
  refine Met.ofW (cc := cX6_endsOpenedAt) (maxL := 2) (ret := (some .int)) (by decide) rfl ?_
  intro p e s m args below meth c s₁ B hml hv
  obtain ⟨rfl, hP, hC⟩ := hv
  have hK := hC.1
  have hNW := hC.2.1
  have hx := B.exec
  have hb := B.bytes
  have hrt := B.returns
  have hts := atoms_spec (ws := wsX6_endsOpenedAt) B.pre
  have hown : s.vm.findClass RX6 = some m.cls := findClass_of_methodNamed B.named
  have hlocks := B.notSynchronized
  have hw_0 := hts (.initialized RX9) (by decide +kernel)
  have hw_1 := hts (.static yX9_upTo) (by decide +kernel)
  have hw_2 := hts (.static yX9_onwardFrom) (by decide +kernel)
  have hl := lv_entry ([.int (zI (z)), .int (x)]) (n := 2) (Nat.le_of_ble_eq_true rfl)
  rw [lg_entry_eq]
  generalize (lg_sl ([.int (zI (z)), .int (x)]) ++ List.replicate (2 - (lg_sl ([.int (zI (z)), .int (x)])).length) Slot.unset).toArray = ls at hl ⊢
  have hl : lv_has ls 2 [(0, .int (zI (z))), (1, .int (x))] := hl
  obtain ⟨Q, hQ⟩ : ∃ Q, Q = MQ below (vp_Si (fun r9 => r9 = eoM z x)) ([.int (zI (z)), .int (x)] : List Value).toArray s 0 0 (fun _ => False) := ⟨_, rfl⟩
  rw [← hQ]
  refine lv_iload_n hx hb dX6_endsOpenedAt_0 rfl (lv_at hl 1 rfl) ?_
  refine lv_iload_n hx hb dX6_endsOpenedAt_1 rfl (lv_at hl 0 rfl) ?_
  refine vp_callSi (va_Run.run (va_runSN (As := [.int (zI (z))]) (rest := [.int (x)]) ⟨hx, hb, hml, hown, hts⟩ (kX9_upTo l D k L f (z) (by omega)) ⟨va_cnB 1 hts gX6_endsOpenedAt_X9_upTo_n53 rfl rfl rfl (hNW (.methodLinkNest RX6 53 yX9_upTo "Regionry") (by decide +kernel)) hw_0 (by decide +kernel) ⟨Nat.le_of_ble_eq_true rfl, Nat.le_of_ble_eq_true rfl⟩, hw_1, trivial⟩ (rc_preS hC hP) rfl rfl hl.1 rfl (lv_room (Nat.le_of_ble_eq_true rfl)) dX6_endsOpenedAt_2 ⟨Nat.zero_le _, Nat.zero_le _⟩)) (fun r1 hr1 => ?_)
  subst hr1
  refine lv_iand hx hb dX6_endsOpenedAt_5 ?_
  refine lv_iload_n hx hb dX6_endsOpenedAt_6 rfl (lv_at hl 1 rfl) ?_
  refine lv_iload_n hx hb dX6_endsOpenedAt_7 rfl (lv_at hl 0 rfl) ?_
  refine zr_const hx hb dX6_endsOpenedAt_8 ?_
  refine zr_add hx hb dX6_endsOpenedAt_9 ?_
  refine vp_callSi (va_Run.run (va_runSN (As := [.int (zI (z + 1))]) (rest := [.int (x), .int (x &&& (upM z))]) ⟨hx, hb, hml, hown, hts⟩ (kX9_onwardFrom l D k L f (z + 1) (by omega)) ⟨va_cnB 1 hts gX6_endsOpenedAt_X9_onwardFrom_n32 rfl rfl rfl (hNW (.methodLinkNest RX6 32 yX9_onwardFrom "Regionry") (by decide +kernel)) hw_0 (by decide +kernel) ⟨Nat.le_of_ble_eq_true rfl, Nat.le_of_ble_eq_true rfl⟩, hw_2, trivial⟩ (rc_preS hC hP) rfl rfl hl.1 rfl (lv_room (Nat.le_of_ble_eq_true rfl)) dX6_endsOpenedAt_10 ⟨Nat.zero_le _, Nat.zero_le _⟩)) (fun r2 hr2 => ?_)
  subst hr2
  refine lv_iand hx hb dX6_endsOpenedAt_13 ?_
  refine zr_const hx hb dX6_endsOpenedAt_14 ?_
  refine lv_ishl hx hb dX6_endsOpenedAt_15 ?_
  refine lv_ior hx hb dX6_endsOpenedAt_16 ?_
  rw [hQ]
  exact rc_iret hx hb hrt (rfl) dX6_endsOpenedAt_17 hlocks

set_option maxHeartbeats 4000000 in
set_option maxRecDepth 100000 in
theorem kX6_endsClosedAt (l : Launch) (D : va_G) (k : Nat → ClassId) (L : List Nat) (f : Nat → va_E) (z : Int) (hz : -800 ≤ z ∧ z ≤ 900) (x : Int32) : Met l yX6_endsClosedAt wsX6_endsClosedAt ({ frames := 2, cells := 0, slots := 0, locals := 40 } : Room) (va_Pc [.int (zI (z)), .int (x)] (rPre D (tyL k) (va_pl L f))) (vp_Si (fun r9 => r9 = ecM z x)) 0 0 (fun _ => False) := by
  refine Met.ofW (cc := cX6_endsClosedAt) (maxL := 2) (ret := (some .int)) (by decide) rfl ?_
  intro p e s m args below meth c s₁ B hml hv
  obtain ⟨rfl, hP, hC⟩ := hv
  have hK := hC.1
  have hNW := hC.2.1
  have hx := B.exec
  have hb := B.bytes
  have hrt := B.returns
  have hts := atoms_spec (ws := wsX6_endsClosedAt) B.pre
  have hown : s.vm.findClass RX6 = some m.cls := findClass_of_methodNamed B.named
  have hlocks := B.notSynchronized
  have hw_0 := hts (.initialized RX9) (by decide +kernel)
  have hw_1 := hts (.static yX9_upTo) (by decide +kernel)
  have hw_2 := hts (.static yX9_onwardFrom) (by decide +kernel)
  have hl := lv_entry ([.int (zI (z)), .int (x)]) (n := 2) (Nat.le_of_ble_eq_true rfl)
  rw [lg_entry_eq]
  generalize (lg_sl ([.int (zI (z)), .int (x)]) ++ List.replicate (2 - (lg_sl ([.int (zI (z)), .int (x)])).length) Slot.unset).toArray = ls at hl ⊢
  have hl : lv_has ls 2 [(0, .int (zI (z))), (1, .int (x))] := hl
  obtain ⟨Q, hQ⟩ : ∃ Q, Q = MQ below (vp_Si (fun r9 => r9 = ecM z x)) ([.int (zI (z)), .int (x)] : List Value).toArray s 0 0 (fun _ => False) := ⟨_, rfl⟩
  rw [← hQ]
  refine lv_iload_n hx hb dX6_endsClosedAt_0 rfl (lv_at hl 1 rfl) ?_
  refine lv_iload_n hx hb dX6_endsClosedAt_1 rfl (lv_at hl 0 rfl) ?_
  refine vp_callSi (va_Run.run (va_runSN (As := [.int (zI (z))]) (rest := [.int (x)]) ⟨hx, hb, hml, hown, hts⟩ (kX9_upTo l D k L f (z) (by omega)) ⟨va_cnB 1 hts gX6_endsClosedAt_X9_upTo_n53 rfl rfl rfl (hNW (.methodLinkNest RX6 53 yX9_upTo "Regionry") (by decide +kernel)) hw_0 (by decide +kernel) ⟨Nat.le_of_ble_eq_true rfl, Nat.le_of_ble_eq_true rfl⟩, hw_1, trivial⟩ (rc_preS hC hP) rfl rfl hl.1 rfl (lv_room (Nat.le_of_ble_eq_true rfl)) dX6_endsClosedAt_2 ⟨Nat.zero_le _, Nat.zero_le _⟩)) (fun r1 hr1 => ?_)
  subst hr1
  refine lv_iand hx hb dX6_endsClosedAt_5 ?_
  refine lv_iload_n hx hb dX6_endsClosedAt_6 rfl (lv_at hl 1 rfl) ?_
  refine lv_iload_n hx hb dX6_endsClosedAt_7 rfl (lv_at hl 0 rfl) ?_
  refine zr_const hx hb dX6_endsClosedAt_8 ?_
  refine zr_add hx hb dX6_endsClosedAt_9 ?_
  refine vp_callSi (va_Run.run (va_runSN (As := [.int (zI (z + 1))]) (rest := [.int (x), .int (x &&& (upM z))]) ⟨hx, hb, hml, hown, hts⟩ (kX9_onwardFrom l D k L f (z + 1) (by omega)) ⟨va_cnB 1 hts gX6_endsClosedAt_X9_onwardFrom_n32 rfl rfl rfl (hNW (.methodLinkNest RX6 32 yX9_onwardFrom "Regionry") (by decide +kernel)) hw_0 (by decide +kernel) ⟨Nat.le_of_ble_eq_true rfl, Nat.le_of_ble_eq_true rfl⟩, hw_2, trivial⟩ (rc_preS hC hP) rfl rfl hl.1 rfl (lv_room (Nat.le_of_ble_eq_true rfl)) dX6_endsClosedAt_10 ⟨Nat.zero_le _, Nat.zero_le _⟩)) (fun r2 hr2 => ?_)
  subst hr2
  refine lv_iand hx hb dX6_endsClosedAt_13 ?_
  refine zr_const hx hb dX6_endsClosedAt_14 ?_
  refine lv_iushr hx hb dX6_endsClosedAt_15 rfl ?_
  refine lv_ior hx hb dX6_endsClosedAt_16 ?_
  rw [hQ]
  exact rc_iret hx hb hrt (rfl) dX6_endsClosedAt_17 hlocks

set_option maxHeartbeats 4000000 in
set_option maxRecDepth 100000 in
theorem kX6_openAt (l : Launch) (D : va_G) (k : Nat → ClassId) (L : List Nat) (f : Nat → va_E) (h r : Nat) (g : Nat → Int32) (hh : h ∈ L) (hfh : f h = .inr (5, [.ref r])) (hr : r ∈ L) (hfr : f r = .inl (k 0, 24, .inl g)) (z : Int) (hz : 0 ≤ z ∧ z ≤ 23) (n0 sz : Nat) : Met l yX6_openAt wsX6_openAt ({ frames := 3, cells := 0, slots := 0, locals := 61 } : Room) (va_Pc [.ref h, .int (zI (z))] (pPre D (tyL k) n0 (va_pl L f) sz)) (va_Qv (fun u => ∃ G : Nat → Int32, (∀ j : Nat, j < 24 → G j = op2 g z 24 j) ∧ u = va_pl L (va_up f r (.inl (k 0, 24, .inl G)))) (pB D (va_pl L f) sz) (va_A (va_pl L f) sz)) 0 0 (va_A (va_pl L f) sz) := by
  refine Met.ofW (cc := cX6_openAt) (maxL := 3) (ret := none) (by decide) rfl ?_
  intro p e s m args below meth c s₁ B hml hv
  obtain ⟨rfl, hsz, hn9, hP, hC, hD0⟩ := hv
  have hK := hC.1
  have hNW := hC.2.1
  have hx := B.exec
  have hb := B.bytes
  have hrt := B.returns
  have hts := atoms_spec (ws := wsX6_openAt) B.pre
  have hown : s.vm.findClass RX6 = some m.cls := findClass_of_methodNamed B.named
  have hlocks := B.notSynchronized
  subst hsz
  obtain ⟨A, hAd⟩ : ∃ A, A = va_A (va_pl L f) s.heap.size := ⟨_, rfl⟩
  have hD := hD0.self (sz := s.heap.size)
  rw [← hAd] at hD
  have hA : ∀ q : Nat, s.heap.size ≤ q → A q := fun q h => by rw [hAd]; exact Or.inr h
  have hAn : ∀ q : Nat, A q → n0 ≤ q := fun q h => by
    rw [hAd] at h
    rcases h with ⟨k9, e9, hk9⟩ | h
    · exact hD0.2 k9 _ hk9
    · exact Nat.le_trans hn9 h
  have hS : va_S A s.heap s.heap [] := va_S.rf
  have hi_X6 : ∀ w ∈ u_ws RX6 TX6 1, w ∈ wsX6_openAt := by decide +kernel
  have hw_0 := hts (.fieldLink RX6 9 "Regionry$RegionSet" "rows" "[I") (by decide +kernel)
  have hl := lv_entry ([.ref h, .int (zI (z))]) (n := 3) (Nat.le_of_ble_eq_true rfl)
  rw [lg_entry_eq]
  generalize (lg_sl ([.ref h, .int (zI (z))]) ++ List.replicate (3 - (lg_sl ([.ref h, .int (zI (z))])).length) Slot.unset).toArray = ls at hl ⊢
  have hl : lv_has ls 3 [(0, .ref h), (1, .int (zI (z)))] := hl
  obtain ⟨Q, hQ⟩ : ∃ Q, Q = MQ below (va_Qv (fun u => ∃ G : Nat → Int32, (∀ j : Nat, j < 24 → G j = op2 g z 24 j) ∧ u = va_pl L (va_up f r (.inl (k 0, 24, .inl G)))) (pB D (va_pl L f) s.heap.size) (va_A (va_pl L f) s.heap.size)) ([.ref h, .int (zI (z))] : List Value).toArray s 0 0 (va_A (va_pl L f) s.heap.size) := ⟨_, rfl⟩
  rw [← hQ]
  refine lv_aload_n hx hb dX6_openAt_0 rfl (lv_at hl 0 rfl) ?_
  refine pl_get (ci := 5) (v := .ref r) (C := RX6) (T := TX6) (N := 1) hx hb hts hi_X6 hown hK hP hh hfh rfl 0 (by decide) hw_0 (fun _ h9 => h9) rfl dX6_openAt_1 ?_
  refine pl_alen (ty := .int) hx hb hK hP hr 0 hfr rfl (24) rfl dX6_openAt_4 ?_
  refine zr_const hx hb dX6_openAt_5 ?_
  refine zr_sub hx hb dX6_openAt_6 ?_
  refine lv_istore_n (lv' := [(2, .int (zI (24 - 1))), (0, .ref h), (1, .int (zI (z)))]) hx hb dX6_openAt_7 rfl hl (by decide) rfl (fun ls hl => ?_)
  have cut_8 : ∀ (n9 : Nat) (z2 : Int), (z ≤ z2 ∧ z2 ≤ 23) → z2 < (n9 : Int) → ∀ (H : Heap) (locs : List Loc), va_P D vwCl (va_pl L (va_up f r (.inl (k 0, 24, .inl (op1 g z z2))))) H → va_D A (va_pl L (va_up f r (.inl (k 0, 24, .inl (op1 g z z2))))) → va_S A s.heap H locs → ∀ (ls : Array Slot), lv_has ls 3 [(0, .ref h), (1, .int (zI (z))), (2, .int (zI (z2)))] → W p l e (headSpec wsX6_openAt ({ frames := 3, cells := 0, slots := 0, locals := 61 } : Room)).room s m ([.ref h, .int (zI (z))] : List Value).toArray below meth c H locs 0 0 Q (F0 m 8 ls []) := by
    intro n9
    induction n9 with
    | zero =>
      intro z2 hz2 hfu
      exact absurd hfu (by omega)
    | succ n9 ih_8 =>
      intro z2 hz2 hfu H locs hP hD hS ls hl
      refine lv_iload_n hx hb dX6_openAt_8 rfl (lv_at hl 2 rfl) ?_
      refine lv_iload_n hx hb dX6_openAt_9 rfl (lv_at hl 1 rfl) ?_
      refine zr_icmp_le (tgt := 35) hx hb dX6_openAt_10 (by decide) (by omega) (by omega) (fun c1 => ?_) (fun c1 => ?_)
      · refine lv_aload_n hx hb dX6_openAt_35 rfl (lv_at hl 0 rfl) ?_
        refine lv_iload_n hx hb dX6_openAt_36 rfl (lv_at hl 1 rfl) ?_
        refine zr_const hx hb dX6_openAt_37 ?_
        refine pc_callv (va_runV (As := [.int (zI (z)), .int (zI (0))]) (rest := []) ⟨hx, hb, hml, hown, hts⟩ (kX6_setRow l D k L (va_up f r (.inl (k 0, 24, .inl (op1 g z z2)))) h r ((op1 g z z2)) hh ((va_up_ne _ _ (ne_k hfh hfr (by simp))).trans hfh) hr (va_up_self _ _ _) (z) (by omega) (zI (0)) n0 _) (cwV 2 hts gX6_openAt_X6_setRow rfl rfl rfl (by decide +kernel) ⟨Nat.le_of_ble_eq_true rfl, Nat.le_of_ble_eq_true rfl⟩) (pc_preV hC hP (Nat.le_trans hn9 hS.1) hD hAn (pl_recv hK hP hh ((va_up_ne _ _ (ne_k hfh hfr (by simp))).trans hfh) (ci := 5) (q := (RX6, TX6, 1)) rfl)) rfl rfl hl.1 rfl (lv_room (Nat.le_of_ble_eq_true rfl)) dX6_openAt_38 ⟨Nat.zero_le _, Nat.zero_le _⟩) hD hS hA (fun ur2 H locs hr2 hP hD hS hzr2 => ?_)
        subst hr2
        rw [bx_uu] at hP hD
        have hP : va_P D vwCl (va_pl L (va_up f r (.inl (k 0, 24, .inl (setR ((op1 g z z2)) z (zI (0))))))) H := hP
        have hD : va_D A (va_pl L (va_up f r (.inl (k 0, 24, .inl (setR ((op1 g z z2)) z (zI (0))))))) := hD
        refine zr_const hx hb dX6_openAt_41 ?_
        refine lv_istore_n (lv' := [(2, .int (zI (0))), (0, .ref h), (1, .int (zI (z)))]) hx hb dX6_openAt_42 rfl hl (by decide) rfl (fun ls hl => ?_)
        have cut_43 : ∀ (n9 : Nat) (i : Nat) (z3 : Int), ((i : Int) ≤ z) → (z3 = i) → 24 - z3 < (n9 : Int) → ∀ (H : Heap) (locs : List Loc), va_P D vwCl (va_pl L (va_up f r (.inl (k 0, 24, .inl (op2 g z i))))) H → va_D A (va_pl L (va_up f r (.inl (k 0, 24, .inl (op2 g z i))))) → va_S A s.heap H locs → ∀ (ls : Array Slot), lv_has ls 3 [(0, .ref h), (1, .int (zI (z))), (2, .int (zI (z3)))] → W p l e (headSpec wsX6_openAt ({ frames := 3, cells := 0, slots := 0, locals := 61 } : Room)).room s m ([.ref h, .int (zI (z))] : List Value).toArray below meth c H locs 0 0 Q (F0 m 43 ls []) := by
          intro n9
          induction n9 with
          | zero =>
            intro i z3 hi hz3 hfu
            exact absurd hfu (by omega)
          | succ n9 ih_43 =>
            intro i z3 hi hz3 hfu H locs hP hD hS ls hl
            refine lv_iload_n hx hb dX6_openAt_43 rfl (lv_at hl 2 rfl) ?_
            refine lv_aload_n hx hb dX6_openAt_44 rfl (lv_at hl 0 rfl) ?_
            refine pl_get (ci := 5) (v := .ref r) (C := RX6) (T := TX6) (N := 1) hx hb hts hi_X6 hown hK hP hh ((va_up_ne _ _ (ne_k hfh hfr (by simp))).trans hfh) rfl 0 (by decide) hw_0 (fun _ h9 => h9) rfl dX6_openAt_45 ?_
            refine pl_alen (ty := .int) hx hb hK hP hr 0 (va_up_self _ _ _) rfl (24) rfl dX6_openAt_48 ?_
            refine zr_icmp_ge (tgt := 79) hx hb dX6_openAt_49 (by decide) (by omega) (by omega) (fun c3 => ?_) (fun c3 => ?_)
            · rw [hQ]
              exact pc_vret hx hb hrt hP (by rw [← hAd]; exact hD) (by rw [← hAd]; exact hS) (⟨op2 g z i, fun j hj => op2_e (by omega) hj, rfl⟩) dX6_openAt_79 hlocks
            · refine lv_iload_n hx hb dX6_openAt_52 rfl (lv_at hl 2 rfl) ?_
              refine lv_iload_n hx hb dX6_openAt_53 rfl (lv_at hl 1 rfl) ?_
              refine zr_icmp_ge (tgt := 79) hx hb dX6_openAt_54 (by decide) (by omega) (by omega) (fun c4 => ?_) (fun c4 => ?_)
              · rw [hQ]
                exact pc_vret hx hb hrt hP (by rw [← hAd]; exact hD) (by rw [← hAd]; exact hS) (⟨op2 g z i, fun j hj => op2_e (by omega) hj, rfl⟩) dX6_openAt_79 hlocks
              · refine lv_aload_n hx hb dX6_openAt_57 rfl (lv_at hl 0 rfl) ?_
                refine pl_get (ci := 5) (v := .ref r) (C := RX6) (T := TX6) (N := 1) hx hb hts hi_X6 hown hK hP hh ((va_up_ne _ _ (ne_k hfh hfr (by simp))).trans hfh) rfl 0 (by decide) hw_0 (fun _ h9 => h9) rfl dX6_openAt_58 ?_
                refine lv_iload_n hx hb dX6_openAt_61 rfl (lv_at hl 2 rfl) ?_
                refine lv_iload_n hx hb dX6_openAt_62 rfl (lv_at hl 1 rfl) ?_
                refine lv_aload_n hx hb dX6_openAt_63 rfl (lv_at hl 0 rfl) ?_
                refine pl_get (ci := 5) (v := .ref r) (C := RX6) (T := TX6) (N := 1) hx hb hts hi_X6 hown hK hP hh ((va_up_ne _ _ (ne_k hfh hfr (by simp))).trans hfh) rfl 0 (by decide) hw_0 (fun _ h9 => h9) rfl dX6_openAt_64 ?_
                refine lv_iload_n hx hb dX6_openAt_67 rfl (lv_at hl 2 rfl) ?_
                refine pl_iald hx hb hK hP hr 0 (va_up_self _ _ _) rfl (i) (by omega) (by omega) (by decide) dX6_openAt_68 ?_
                refine vp_callSi (va_Run.run (va_runS (As := [.int (zI (z)), .int (((op2 g z i)) (i))]) (rest := [.int (zI (z3)), .ref r]) ⟨hx, hb, hml, hown, hts⟩ (kX6_endsOpenedAt l D k L (va_up f r (.inl (k 0, 24, .inl (op2 g z i)))) (z) (by omega) (((op2 g z i)) (i))) (va_cwS 2 hts gX6_openAt_X6_endsOpenedAt rfl rfl rfl (by decide +kernel) ⟨Nat.le_of_ble_eq_true rfl, Nat.le_of_ble_eq_true rfl⟩) (rc_preS hC hP) rfl rfl hl.1 rfl (lv_room (Nat.le_of_ble_eq_true rfl)) dX6_openAt_69 ⟨Nat.zero_le _, Nat.zero_le _⟩)) (fun r5 hr5 => ?_)
                subst hr5
                refine pl_iast (x := (eoM z (((op2 g z i)) (i)))) hx hb hK hP hD hS hr 0 (va_up_self _ _ _) rfl (i) (by omega) (by omega) (by decide) dX6_openAt_72 (fun H locs hP hD hS => ?_)
                rw [bx_uu] at hP hD
                have hP : va_P D vwCl (va_pl L (va_up f r (.inl (k 0, 24, .inl (upd ((op2 g z i)) (i) (eoM z (((op2 g z i)) (i)))))))) H := hP
                have hD : va_D A (va_pl L (va_up f r (.inl (k 0, 24, .inl (upd ((op2 g z i)) (i) (eoM z (((op2 g z i)) (i)))))))) := hD
                refine zr_iinc (k := 2) (lv' := [(2, .int (zI (z3 + 1))), (0, .ref h), (1, .int (zI (z)))]) hx hb dX6_openAt_73 hl rfl (by decide) rfl (fun ls hl => ?_)
                refine lv_goto (tgt := 43) hx hb dX6_openAt_76 (by decide) ?_
                have hg9 : ((upd ((op2 g z i)) (i) (eoM z (((op2 g z i)) (i)))) : Nat → Int32) = op2 g z (i + 1) := by exact op2_s (by omega)
                rw [hg9] at hP hD
                exact ih_43 (i + 1) (z3 + 1) (by omega) (by omega) (by omega) _ _ hP hD hS _ (lv_sub hl [1, 2, 0] rfl)
        have hg9 : ((setR ((op1 g z z2)) z (zI (0))) : Nat → Int32) = op2 g z (0) := by rw [show z2 = z by omega]; exact op2_0 (by omega)
        rw [hg9] at hP hD
        exact cut_43 ((24 - (0) : Int).toNat + 1) (0) (0) (by omega) (by omega) (by omega) _ _ hP hD hS _ (lv_sub hl [1, 2, 0] rfl)
      · refine lv_aload_n hx hb dX6_openAt_13 rfl (lv_at hl 0 rfl) ?_
        refine lv_iload_n hx hb dX6_openAt_14 rfl (lv_at hl 2 rfl) ?_
        refine lv_iload_n hx hb dX6_openAt_15 rfl (lv_at hl 1 rfl) ?_
        refine lv_aload_n hx hb dX6_openAt_16 rfl (lv_at hl 0 rfl) ?_
        refine lv_iload_n hx hb dX6_openAt_17 rfl (lv_at hl 2 rfl) ?_
        refine zr_const hx hb dX6_openAt_18 ?_
        refine zr_sub hx hb dX6_openAt_19 ?_
        refine vp_callSi (va_Run.run (va_runV (As := [.int (zI (z2 - 1))]) (rest := [.int (zI (z)), .int (zI (z2)), .ref h]) ⟨hx, hb, hml, hown, hts⟩ (kX6_row l D k L (va_up f r (.inl (k 0, 24, .inl (op1 g z z2)))) h r ((op1 g z z2)) hh ((va_up_ne _ _ (ne_k hfh hfr (by simp))).trans hfh) hr (va_up_self _ _ _) (z2 - 1) (by omega)) (cwV 1 hts gX6_openAt_X6_row rfl rfl rfl (by decide +kernel) ⟨Nat.le_of_ble_eq_true rfl, Nat.le_of_ble_eq_true rfl⟩) (rc_preV hC hP (pl_recv hK hP hh ((va_up_ne _ _ (ne_k hfh hfr (by simp))).trans hfh) (ci := 5) (q := (RX6, TX6, 1)) rfl)) rfl rfl hl.1 rfl (lv_room (Nat.le_of_ble_eq_true rfl)) dX6_openAt_20 ⟨Nat.zero_le _, Nat.zero_le _⟩)) (fun r6 hr6 => ?_)
        subst hr6
        refine vp_callSi (va_Run.run (va_runS (As := [.int (zI (z)), .int (rowAt ((op1 g z z2)) (z2 - 1))]) (rest := [.int (zI (z2)), .ref h]) ⟨hx, hb, hml, hown, hts⟩ (kX6_endsOpenedAt l D k L (va_up f r (.inl (k 0, 24, .inl (op1 g z z2)))) (z) (by omega) (rowAt ((op1 g z z2)) (z2 - 1))) (va_cwS 2 hts gX6_openAt_X6_endsOpenedAt rfl rfl rfl (by decide +kernel) ⟨Nat.le_of_ble_eq_true rfl, Nat.le_of_ble_eq_true rfl⟩) (rc_preS hC hP) rfl rfl hl.1 rfl (lv_room (Nat.le_of_ble_eq_true rfl)) dX6_openAt_23 ⟨Nat.zero_le _, Nat.zero_le _⟩)) (fun r7 hr7 => ?_)
        subst hr7
        refine pc_callv (va_runV (As := [.int (zI (z2)), .int (eoM z (rowAt ((op1 g z z2)) (z2 - 1)))]) (rest := []) ⟨hx, hb, hml, hown, hts⟩ (kX6_setRow l D k L (va_up f r (.inl (k 0, 24, .inl (op1 g z z2)))) h r ((op1 g z z2)) hh ((va_up_ne _ _ (ne_k hfh hfr (by simp))).trans hfh) hr (va_up_self _ _ _) (z2) (by omega) (eoM z (rowAt ((op1 g z z2)) (z2 - 1))) n0 _) (cwV 2 hts gX6_openAt_X6_setRow rfl rfl rfl (by decide +kernel) ⟨Nat.le_of_ble_eq_true rfl, Nat.le_of_ble_eq_true rfl⟩) (pc_preV hC hP (Nat.le_trans hn9 hS.1) hD hAn (pl_recv hK hP hh ((va_up_ne _ _ (ne_k hfh hfr (by simp))).trans hfh) (ci := 5) (q := (RX6, TX6, 1)) rfl)) rfl rfl hl.1 rfl (lv_room (Nat.le_of_ble_eq_true rfl)) dX6_openAt_26 ⟨Nat.zero_le _, Nat.zero_le _⟩) hD hS hA (fun ur8 H locs hr8 hP hD hS hzr8 => ?_)
        subst hr8
        rw [bx_uu] at hP hD
        have hP : va_P D vwCl (va_pl L (va_up f r (.inl (k 0, 24, .inl (setR ((op1 g z z2)) z2 (eoM z (rowAt ((op1 g z z2)) (z2 - 1)))))))) H := hP
        have hD : va_D A (va_pl L (va_up f r (.inl (k 0, 24, .inl (setR ((op1 g z z2)) z2 (eoM z (rowAt ((op1 g z z2)) (z2 - 1)))))))) := hD
        refine zr_iinc (k := 2) (lv' := [(2, .int (zI (z2 + (-1)))), (0, .ref h), (1, .int (zI (z)))]) hx hb dX6_openAt_29 hl rfl (by decide) rfl (fun ls hl => ?_)
        refine lv_goto (tgt := 8) hx hb dX6_openAt_32 (by decide) ?_
        have hg9 : ((setR ((op1 g z z2)) z2 (eoM z (rowAt ((op1 g z z2)) (z2 - 1)))) : Nat → Int32) = op1 g z (z2 + (-1)) := by rw [setR_in (by omega)]; exact op1_s (by omega)
        rw [hg9] at hP hD
        exact ih_8 (z2 + (-1)) (by omega) (by omega) _ _ hP hD hS _ (lv_sub hl [1, 2, 0] rfl)
  rw [← up_id (a := r) hfr] at hP hD
  have hg9 : (g : Nat → Int32) = op1 g z (24 - 1) := by exact (op1_0 g z).symm
  rw [hg9] at hP hD
  exact cut_8 (((24 - 1) : Int).toNat + 1) (24 - 1) (by omega) (by omega) _ _ hP hD hS _ (lv_sub hl [1, 2, 0] rfl)

set_option maxHeartbeats 4000000 in
set_option maxRecDepth 100000 in
theorem kX6_closeAt (l : Launch) (D : va_G) (k : Nat → ClassId) (L : List Nat) (f : Nat → va_E) (h r : Nat) (g : Nat → Int32) (hh : h ∈ L) (hfh : f h = .inr (5, [.ref r])) (hr : r ∈ L) (hfr : f r = .inl (k 0, 24, .inl g)) (z : Int) (hz : 0 ≤ z ∧ z ≤ 23) (n0 sz : Nat) : Met l yX6_closeAt wsX6_closeAt ({ frames := 3, cells := 0, slots := 0, locals := 61 } : Room) (va_Pc [.ref h, .int (zI (z))] (pPre D (tyL k) n0 (va_pl L f) sz)) (va_Qv (fun u => u = va_pl L (va_up f r (.inl (k 0, 24, .inl (fa_fill (clF g z) g 24))))) (pB D (va_pl L f) sz) (va_A (va_pl L f) sz)) 0 0 (va_A (va_pl L f) sz) := by
  refine Met.ofW (cc := cX6_closeAt) (maxL := 5) (ret := none) (by decide) rfl ?_
  intro p e s m args below meth c s₁ B hml hv
  obtain ⟨rfl, hsz, hn9, hP, hC, hD0⟩ := hv
  have hK := hC.1
  have hNW := hC.2.1
  have hx := B.exec
  have hb := B.bytes
  have hrt := B.returns
  have hts := atoms_spec (ws := wsX6_closeAt) B.pre
  have hown : s.vm.findClass RX6 = some m.cls := findClass_of_methodNamed B.named
  have hlocks := B.notSynchronized
  subst hsz
  obtain ⟨A, hAd⟩ : ∃ A, A = va_A (va_pl L f) s.heap.size := ⟨_, rfl⟩
  have hD := hD0.self (sz := s.heap.size)
  rw [← hAd] at hD
  have hA : ∀ q : Nat, s.heap.size ≤ q → A q := fun q h => by rw [hAd]; exact Or.inr h
  have hAn : ∀ q : Nat, A q → n0 ≤ q := fun q h => by
    rw [hAd] at h
    rcases h with ⟨k9, e9, hk9⟩ | h
    · exact hD0.2 k9 _ hk9
    · exact Nat.le_trans hn9 h
  have hS : va_S A s.heap s.heap [] := va_S.rf
  have hi_X6 : ∀ w ∈ u_ws RX6 TX6 1, w ∈ wsX6_closeAt := by decide +kernel
  have hw_0 := hts (.fieldLink RX6 9 "Regionry$RegionSet" "rows" "[I") (by decide +kernel)
  have hw_1 := hts (.initialized RX9) (by decide +kernel)
  have hw_2 := hts (.static yX9_onwardFrom) (by decide +kernel)
  have hl := lv_entry ([.ref h, .int (zI (z))]) (n := 5) (Nat.le_of_ble_eq_true rfl)
  rw [lg_entry_eq]
  generalize (lg_sl ([.ref h, .int (zI (z))]) ++ List.replicate (5 - (lg_sl ([.ref h, .int (zI (z))])).length) Slot.unset).toArray = ls at hl ⊢
  have hl : lv_has ls 5 [(0, .ref h), (1, .int (zI (z)))] := hl
  obtain ⟨Q, hQ⟩ : ∃ Q, Q = MQ below (va_Qv (fun u => u = va_pl L (va_up f r (.inl (k 0, 24, .inl (fa_fill (clF g z) g 24))))) (pB D (va_pl L f) s.heap.size) (va_A (va_pl L f) s.heap.size)) ([.ref h, .int (zI (z))] : List Value).toArray s 0 0 (va_A (va_pl L f) s.heap.size) := ⟨_, rfl⟩
  rw [← hQ]
  refine zr_const hx hb dX6_closeAt_0 ?_
  refine lv_istore_n (lv' := [(2, .int (zI (0))), (0, .ref h), (1, .int (zI (z)))]) hx hb dX6_closeAt_1 rfl hl (by decide) rfl (fun ls hl => ?_)
  have cut_2 : ∀ (n9 : Nat) (i : Nat) (z2 : Int), (i ≤ 24) → (z2 = i) → 24 - z2 < (n9 : Int) → ∀ (H : Heap) (locs : List Loc), va_P D vwCl (va_pl L (va_up f r (.inl (k 0, 24, .inl (fa_fill (clF g z) g i))))) H → va_D A (va_pl L (va_up f r (.inl (k 0, 24, .inl (fa_fill (clF g z) g i))))) → va_S A s.heap H locs → ∀ (ls : Array Slot), lv_has ls 5 [(0, .ref h), (1, .int (zI (z))), (2, .int (zI (z2)))] → W p l e (headSpec wsX6_closeAt ({ frames := 3, cells := 0, slots := 0, locals := 61 } : Room)).room s m ([.ref h, .int (zI (z))] : List Value).toArray below meth c H locs 0 0 Q (F0 m 2 ls []) := by
    intro n9
    induction n9 with
    | zero =>
      intro i z2 hi hz2 hfu
      exact absurd hfu (by omega)
    | succ n9 ih_2 =>
      intro i z2 hi hz2 hfu H locs hP hD hS ls hl
      refine lv_iload_n hx hb dX6_closeAt_2 rfl (lv_at hl 2 rfl) ?_
      refine lv_aload_n hx hb dX6_closeAt_3 rfl (lv_at hl 0 rfl) ?_
      refine pl_get (ci := 5) (v := .ref r) (C := RX6) (T := TX6) (N := 1) hx hb hts hi_X6 hown hK hP hh ((va_up_ne _ _ (ne_k hfh hfr (by simp))).trans hfh) rfl 0 (by decide) hw_0 (fun _ h9 => h9) rfl dX6_closeAt_4 ?_
      refine pl_alen (ty := .int) hx hb hK hP hr 0 (va_up_self _ _ _) rfl (24) rfl dX6_closeAt_7 ?_
      refine zr_icmp_ge (tgt := 71) hx hb dX6_closeAt_8 (by decide) (by omega) (by omega) (fun c1 => ?_) (fun c1 => ?_)
      · rw [hQ]
        exact pc_vret hx hb hrt hP (by rw [← hAd]; exact hD) (by rw [← hAd]; exact hS) (by obtain rfl : i = 24 := (by omega); rfl) dX6_closeAt_71 hlocks
      · refine lv_iload_n hx hb dX6_closeAt_11 rfl (lv_at hl 2 rfl) ?_
        refine lv_iload_n hx hb dX6_closeAt_12 rfl (lv_at hl 1 rfl) ?_
        refine zr_icmp_gt (tgt := 24) hx hb dX6_closeAt_13 (by decide) (by omega) (by omega) (fun c2 => ?_) (fun c2 => ?_)
        · refine zr_const hx hb dX6_closeAt_24 ?_
          refine lv_istore_n (lv' := [(3, .int (zI (0))), (0, .ref h), (1, .int (zI (z))), (2, .int (zI (z2)))]) hx hb dX6_closeAt_25 rfl hl (by decide) rfl (fun ls hl => ?_)
          refine lv_iload_n hx hb dX6_closeAt_26 rfl (lv_at hl 3 rfl) ?_
          refine lv_iload_n hx hb dX6_closeAt_27 rfl (lv_at hl 2 rfl) ?_
          refine zr_icmp_lt (tgt := 41) hx hb dX6_closeAt_28 (by decide) (by omega) (by omega) (fun c3 => ?_) (fun c3 => ?_)
          · refine zr_const hx hb dX6_closeAt_41 ?_
            refine lv_istore (lv' := [(4, .int (zI (0))), (3, .int (zI (0))), (0, .ref h), (1, .int (zI (z))), (2, .int (zI (z2)))]) hx hb dX6_closeAt_42 hl (by decide) rfl (fun ls hl => ?_)
            refine lv_aload_n hx hb dX6_closeAt_44 rfl (lv_at hl 2 rfl) ?_
            refine pl_get (ci := 5) (v := .ref r) (C := RX6) (T := TX6) (N := 1) hx hb hts hi_X6 hown hK hP hh ((va_up_ne _ _ (ne_k hfh hfr (by simp))).trans hfh) rfl 0 (by decide) hw_0 (fun _ h9 => h9) rfl dX6_closeAt_45 ?_
            refine lv_iload_n hx hb dX6_closeAt_48 rfl (lv_at hl 4 rfl) ?_
            refine lv_iload_n hx hb dX6_closeAt_49 rfl (lv_at hl 3 rfl) ?_
            refine lv_iload_n hx hb dX6_closeAt_50 rfl (lv_at hl 1 rfl) ?_
            refine lv_iload hx hb dX6_closeAt_51 (lv_at hl 0 rfl) ?_
            refine lv_ior hx hb dX6_closeAt_53 ?_
            refine vp_callSi (va_Run.run (va_runS (As := [.int (zI (z)), .int ((zI (0)) ||| (zI (0)))]) (rest := [.int (zI (z2)), .ref r]) ⟨hx, hb, hml, hown, hts⟩ (kX6_endsClosedAt l D k L (va_up f r (.inl (k 0, 24, .inl (fa_fill (clF g z) g i)))) (z) (by omega) ((zI (0)) ||| (zI (0)))) (va_cwS 2 hts gX6_closeAt_X6_endsClosedAt rfl rfl rfl (by decide +kernel) ⟨Nat.le_of_ble_eq_true rfl, Nat.le_of_ble_eq_true rfl⟩) (rc_preS hC hP) rfl rfl hl.1 rfl (lv_room (Nat.le_of_ble_eq_true rfl)) dX6_closeAt_54 ⟨Nat.zero_le _, Nat.zero_le _⟩)) (fun r4 hr4 => ?_)
            subst hr4
            refine lv_iload_n hx hb dX6_closeAt_57 rfl (lv_at hl 4 rfl) ?_
            refine zr_const hx hb dX6_closeAt_58 ?_
            refine zr_add hx hb dX6_closeAt_59 ?_
            refine vp_callSi (va_Run.run (va_runSN (As := [.int (zI (z2 + 1))]) (rest := [.int (ecM z ((zI (0)) ||| (zI (0)))), .int (zI (z2)), .ref r]) ⟨hx, hb, hml, hown, hts⟩ (kX9_onwardFrom l D k L (va_up f r (.inl (k 0, 24, .inl (fa_fill (clF g z) g i)))) (z2 + 1) (by omega)) ⟨va_cnB 1 hts gX6_closeAt_X9_onwardFrom_n32 rfl rfl rfl (hNW (.methodLinkNest RX6 32 yX9_onwardFrom "Regionry") (by decide +kernel)) hw_1 (by decide +kernel) ⟨Nat.le_of_ble_eq_true rfl, Nat.le_of_ble_eq_true rfl⟩, hw_2, trivial⟩ (rc_preS hC hP) rfl rfl hl.1 rfl (lv_room (Nat.le_of_ble_eq_true rfl)) dX6_closeAt_60 ⟨Nat.zero_le _, Nat.zero_le _⟩)) (fun r5 hr5 => ?_)
            subst hr5
            refine lv_iand hx hb dX6_closeAt_63 ?_
            refine pl_iast (x := ((ecM z ((zI (0)) ||| (zI (0)))) &&& (onM (z2 + 1)))) hx hb hK hP hD hS hr 0 (va_up_self _ _ _) rfl (i) (by omega) (by omega) (by decide) dX6_closeAt_64 (fun H locs hP hD hS => ?_)
            rw [bx_uu] at hP hD
            have hP : va_P D vwCl (va_pl L (va_up f r (.inl (k 0, 24, .inl (upd ((fa_fill (clF g z) g i)) (i) ((ecM z ((zI (0)) ||| (zI (0)))) &&& (onM (z2 + 1)))))))) H := hP
            have hD : va_D A (va_pl L (va_up f r (.inl (k 0, 24, .inl (upd ((fa_fill (clF g z) g i)) (i) ((ecM z ((zI (0)) ||| (zI (0)))) &&& (onM (z2 + 1)))))))) := hD
            refine zr_iinc (k := 4) (lv' := [(2, .int (zI (z2 + 1))), (4, .int (zI (0))), (3, .int (zI (0))), (0, .ref h), (1, .int (zI (z)))]) hx hb dX6_closeAt_65 hl rfl (by decide) rfl (fun ls hl => ?_)
            refine lv_goto (tgt := 2) hx hb dX6_closeAt_68 (by decide) ?_
            have hg9 : ((upd ((fa_fill (clF g z) g i)) (i) ((ecM z ((zI (0)) ||| (zI (0)))) &&& (onM (z2 + 1)))) : Nat → Int32) = fa_fill (clF g z) g (i + 1) := by exact clF_s hz2 (by first | (rw [if_pos (by omega), row_fill (by omega), hz2]) | (rw [if_neg (by omega)])) (by first | (rw [if_pos (by omega), row_fill (by omega), hz2]) | (rw [if_neg (by omega)]))
            rw [hg9] at hP hD
            exact ih_2 (i + 1) (z2 + 1) (by omega) (by omega) (by omega) _ _ hP hD hS _ (lv_sub hl [3, 4, 0] rfl)
          · refine lv_aload_n hx hb dX6_closeAt_31 rfl (lv_at hl 1 rfl) ?_
            refine lv_iload_n hx hb dX6_closeAt_32 rfl (lv_at hl 3 rfl) ?_
            refine zr_const hx hb dX6_closeAt_33 ?_
            refine zr_add hx hb dX6_closeAt_34 ?_
            refine vp_callSi (va_Run.run (va_runV (As := [.int (zI (z2 + 1))]) (rest := []) ⟨hx, hb, hml, hown, hts⟩ (kX6_row l D k L (va_up f r (.inl (k 0, 24, .inl (fa_fill (clF g z) g i)))) h r ((fa_fill (clF g z) g i)) hh ((va_up_ne _ _ (ne_k hfh hfr (by simp))).trans hfh) hr (va_up_self _ _ _) (z2 + 1) (by omega)) (cwV 1 hts gX6_closeAt_X6_row rfl rfl rfl (by decide +kernel) ⟨Nat.le_of_ble_eq_true rfl, Nat.le_of_ble_eq_true rfl⟩) (rc_preV hC hP (pl_recv hK hP hh ((va_up_ne _ _ (ne_k hfh hfr (by simp))).trans hfh) (ci := 5) (q := (RX6, TX6, 1)) rfl)) rfl rfl hl.1 rfl (lv_room (Nat.le_of_ble_eq_true rfl)) dX6_closeAt_35 ⟨Nat.zero_le _, Nat.zero_le _⟩)) (fun r6 hr6 => ?_)
            subst hr6
            refine lv_goto (tgt := 42) hx hb dX6_closeAt_38 (by decide) ?_
            refine lv_istore (lv' := [(4, .int (rowAt ((fa_fill (clF g z) g i)) (z2 + 1))), (3, .int (zI (0))), (0, .ref h), (1, .int (zI (z))), (2, .int (zI (z2)))]) hx hb dX6_closeAt_42 hl (by decide) rfl (fun ls hl => ?_)
            refine lv_aload_n hx hb dX6_closeAt_44 rfl (lv_at hl 2 rfl) ?_
            refine pl_get (ci := 5) (v := .ref r) (C := RX6) (T := TX6) (N := 1) hx hb hts hi_X6 hown hK hP hh ((va_up_ne _ _ (ne_k hfh hfr (by simp))).trans hfh) rfl 0 (by decide) hw_0 (fun _ h9 => h9) rfl dX6_closeAt_45 ?_
            refine lv_iload_n hx hb dX6_closeAt_48 rfl (lv_at hl 4 rfl) ?_
            refine lv_iload_n hx hb dX6_closeAt_49 rfl (lv_at hl 3 rfl) ?_
            refine lv_iload_n hx hb dX6_closeAt_50 rfl (lv_at hl 1 rfl) ?_
            refine lv_iload hx hb dX6_closeAt_51 (lv_at hl 0 rfl) ?_
            refine lv_ior hx hb dX6_closeAt_53 ?_
            refine vp_callSi (va_Run.run (va_runS (As := [.int (zI (z)), .int ((zI (0)) ||| (rowAt ((fa_fill (clF g z) g i)) (z2 + 1)))]) (rest := [.int (zI (z2)), .ref r]) ⟨hx, hb, hml, hown, hts⟩ (kX6_endsClosedAt l D k L (va_up f r (.inl (k 0, 24, .inl (fa_fill (clF g z) g i)))) (z) (by omega) ((zI (0)) ||| (rowAt ((fa_fill (clF g z) g i)) (z2 + 1)))) (va_cwS 2 hts gX6_closeAt_X6_endsClosedAt rfl rfl rfl (by decide +kernel) ⟨Nat.le_of_ble_eq_true rfl, Nat.le_of_ble_eq_true rfl⟩) (rc_preS hC hP) rfl rfl hl.1 rfl (lv_room (Nat.le_of_ble_eq_true rfl)) dX6_closeAt_54 ⟨Nat.zero_le _, Nat.zero_le _⟩)) (fun r7 hr7 => ?_)
            subst hr7
            refine lv_iload_n hx hb dX6_closeAt_57 rfl (lv_at hl 4 rfl) ?_
            refine zr_const hx hb dX6_closeAt_58 ?_
            refine zr_add hx hb dX6_closeAt_59 ?_
            refine vp_callSi (va_Run.run (va_runSN (As := [.int (zI (z2 + 1))]) (rest := [.int (ecM z ((zI (0)) ||| (rowAt ((fa_fill (clF g z) g i)) (z2 + 1)))), .int (zI (z2)), .ref r]) ⟨hx, hb, hml, hown, hts⟩ (kX9_onwardFrom l D k L (va_up f r (.inl (k 0, 24, .inl (fa_fill (clF g z) g i)))) (z2 + 1) (by omega)) ⟨va_cnB 1 hts gX6_closeAt_X9_onwardFrom_n32 rfl rfl rfl (hNW (.methodLinkNest RX6 32 yX9_onwardFrom "Regionry") (by decide +kernel)) hw_1 (by decide +kernel) ⟨Nat.le_of_ble_eq_true rfl, Nat.le_of_ble_eq_true rfl⟩, hw_2, trivial⟩ (rc_preS hC hP) rfl rfl hl.1 rfl (lv_room (Nat.le_of_ble_eq_true rfl)) dX6_closeAt_60 ⟨Nat.zero_le _, Nat.zero_le _⟩)) (fun r8 hr8 => ?_)
            subst hr8
            refine lv_iand hx hb dX6_closeAt_63 ?_
            refine pl_iast (x := ((ecM z ((zI (0)) ||| (rowAt ((fa_fill (clF g z) g i)) (z2 + 1)))) &&& (onM (z2 + 1)))) hx hb hK hP hD hS hr 0 (va_up_self _ _ _) rfl (i) (by omega) (by omega) (by decide) dX6_closeAt_64 (fun H locs hP hD hS => ?_)
            rw [bx_uu] at hP hD
            have hP : va_P D vwCl (va_pl L (va_up f r (.inl (k 0, 24, .inl (upd ((fa_fill (clF g z) g i)) (i) ((ecM z ((zI (0)) ||| (rowAt ((fa_fill (clF g z) g i)) (z2 + 1)))) &&& (onM (z2 + 1)))))))) H := hP
            have hD : va_D A (va_pl L (va_up f r (.inl (k 0, 24, .inl (upd ((fa_fill (clF g z) g i)) (i) ((ecM z ((zI (0)) ||| (rowAt ((fa_fill (clF g z) g i)) (z2 + 1)))) &&& (onM (z2 + 1)))))))) := hD
            refine zr_iinc (k := 4) (lv' := [(2, .int (zI (z2 + 1))), (4, .int (rowAt ((fa_fill (clF g z) g i)) (z2 + 1))), (3, .int (zI (0))), (0, .ref h), (1, .int (zI (z)))]) hx hb dX6_closeAt_65 hl rfl (by decide) rfl (fun ls hl => ?_)
            refine lv_goto (tgt := 2) hx hb dX6_closeAt_68 (by decide) ?_
            have hg9 : ((upd ((fa_fill (clF g z) g i)) (i) ((ecM z ((zI (0)) ||| (rowAt ((fa_fill (clF g z) g i)) (z2 + 1)))) &&& (onM (z2 + 1)))) : Nat → Int32) = fa_fill (clF g z) g (i + 1) := by exact clF_s hz2 (by first | (rw [if_pos (by omega), row_fill (by omega), hz2]) | (rw [if_neg (by omega)])) (by first | (rw [if_pos (by omega), row_fill (by omega), hz2]) | (rw [if_neg (by omega)]))
            rw [hg9] at hP hD
            exact ih_2 (i + 1) (z2 + 1) (by omega) (by omega) (by omega) _ _ hP hD hS _ (lv_sub hl [3, 4, 0] rfl)
        · refine lv_aload_n hx hb dX6_closeAt_16 rfl (lv_at hl 0 rfl) ?_
          refine lv_iload_n hx hb dX6_closeAt_17 rfl (lv_at hl 2 rfl) ?_
          refine vp_callSi (va_Run.run (va_runV (As := [.int (zI (z2))]) (rest := []) ⟨hx, hb, hml, hown, hts⟩ (kX6_row l D k L (va_up f r (.inl (k 0, 24, .inl (fa_fill (clF g z) g i)))) h r ((fa_fill (clF g z) g i)) hh ((va_up_ne _ _ (ne_k hfh hfr (by simp))).trans hfh) hr (va_up_self _ _ _) (z2) (by omega)) (cwV 1 hts gX6_closeAt_X6_row rfl rfl rfl (by decide +kernel) ⟨Nat.le_of_ble_eq_true rfl, Nat.le_of_ble_eq_true rfl⟩) (rc_preV hC hP (pl_recv hK hP hh ((va_up_ne _ _ (ne_k hfh hfr (by simp))).trans hfh) (ci := 5) (q := (RX6, TX6, 1)) rfl)) rfl rfl hl.1 rfl (lv_room (Nat.le_of_ble_eq_true rfl)) dX6_closeAt_18 ⟨Nat.zero_le _, Nat.zero_le _⟩)) (fun r9 hr9 => ?_)
          subst hr9
          refine lv_goto (tgt := 25) hx hb dX6_closeAt_21 (by decide) ?_
          refine lv_istore_n (lv' := [(3, .int (rowAt ((fa_fill (clF g z) g i)) z2)), (0, .ref h), (1, .int (zI (z))), (2, .int (zI (z2)))]) hx hb dX6_closeAt_25 rfl hl (by decide) rfl (fun ls hl => ?_)
          refine lv_iload_n hx hb dX6_closeAt_26 rfl (lv_at hl 3 rfl) ?_
          refine lv_iload_n hx hb dX6_closeAt_27 rfl (lv_at hl 2 rfl) ?_
          refine zr_icmp_lt (tgt := 41) hx hb dX6_closeAt_28 (by decide) (by omega) (by omega) (fun c10 => ?_) (fun c10 => ?_)
          · refine zr_const hx hb dX6_closeAt_41 ?_
            refine lv_istore (lv' := [(4, .int (zI (0))), (3, .int (rowAt ((fa_fill (clF g z) g i)) z2)), (0, .ref h), (1, .int (zI (z))), (2, .int (zI (z2)))]) hx hb dX6_closeAt_42 hl (by decide) rfl (fun ls hl => ?_)
            refine lv_aload_n hx hb dX6_closeAt_44 rfl (lv_at hl 2 rfl) ?_
            refine pl_get (ci := 5) (v := .ref r) (C := RX6) (T := TX6) (N := 1) hx hb hts hi_X6 hown hK hP hh ((va_up_ne _ _ (ne_k hfh hfr (by simp))).trans hfh) rfl 0 (by decide) hw_0 (fun _ h9 => h9) rfl dX6_closeAt_45 ?_
            refine lv_iload_n hx hb dX6_closeAt_48 rfl (lv_at hl 4 rfl) ?_
            refine lv_iload_n hx hb dX6_closeAt_49 rfl (lv_at hl 3 rfl) ?_
            refine lv_iload_n hx hb dX6_closeAt_50 rfl (lv_at hl 1 rfl) ?_
            refine lv_iload hx hb dX6_closeAt_51 (lv_at hl 0 rfl) ?_
            refine lv_ior hx hb dX6_closeAt_53 ?_
            refine vp_callSi (va_Run.run (va_runS (As := [.int (zI (z)), .int ((rowAt ((fa_fill (clF g z) g i)) z2) ||| (zI (0)))]) (rest := [.int (zI (z2)), .ref r]) ⟨hx, hb, hml, hown, hts⟩ (kX6_endsClosedAt l D k L (va_up f r (.inl (k 0, 24, .inl (fa_fill (clF g z) g i)))) (z) (by omega) ((rowAt ((fa_fill (clF g z) g i)) z2) ||| (zI (0)))) (va_cwS 2 hts gX6_closeAt_X6_endsClosedAt rfl rfl rfl (by decide +kernel) ⟨Nat.le_of_ble_eq_true rfl, Nat.le_of_ble_eq_true rfl⟩) (rc_preS hC hP) rfl rfl hl.1 rfl (lv_room (Nat.le_of_ble_eq_true rfl)) dX6_closeAt_54 ⟨Nat.zero_le _, Nat.zero_le _⟩)) (fun r11 hr11 => ?_)
            subst hr11
            refine lv_iload_n hx hb dX6_closeAt_57 rfl (lv_at hl 4 rfl) ?_
            refine zr_const hx hb dX6_closeAt_58 ?_
            refine zr_add hx hb dX6_closeAt_59 ?_
            refine vp_callSi (va_Run.run (va_runSN (As := [.int (zI (z2 + 1))]) (rest := [.int (ecM z ((rowAt ((fa_fill (clF g z) g i)) z2) ||| (zI (0)))), .int (zI (z2)), .ref r]) ⟨hx, hb, hml, hown, hts⟩ (kX9_onwardFrom l D k L (va_up f r (.inl (k 0, 24, .inl (fa_fill (clF g z) g i)))) (z2 + 1) (by omega)) ⟨va_cnB 1 hts gX6_closeAt_X9_onwardFrom_n32 rfl rfl rfl (hNW (.methodLinkNest RX6 32 yX9_onwardFrom "Regionry") (by decide +kernel)) hw_1 (by decide +kernel) ⟨Nat.le_of_ble_eq_true rfl, Nat.le_of_ble_eq_true rfl⟩, hw_2, trivial⟩ (rc_preS hC hP) rfl rfl hl.1 rfl (lv_room (Nat.le_of_ble_eq_true rfl)) dX6_closeAt_60 ⟨Nat.zero_le _, Nat.zero_le _⟩)) (fun r12 hr12 => ?_)
            subst hr12
            refine lv_iand hx hb dX6_closeAt_63 ?_
            refine pl_iast (x := ((ecM z ((rowAt ((fa_fill (clF g z) g i)) z2) ||| (zI (0)))) &&& (onM (z2 + 1)))) hx hb hK hP hD hS hr 0 (va_up_self _ _ _) rfl (i) (by omega) (by omega) (by decide) dX6_closeAt_64 (fun H locs hP hD hS => ?_)
            rw [bx_uu] at hP hD
            have hP : va_P D vwCl (va_pl L (va_up f r (.inl (k 0, 24, .inl (upd ((fa_fill (clF g z) g i)) (i) ((ecM z ((rowAt ((fa_fill (clF g z) g i)) z2) ||| (zI (0)))) &&& (onM (z2 + 1)))))))) H := hP
            have hD : va_D A (va_pl L (va_up f r (.inl (k 0, 24, .inl (upd ((fa_fill (clF g z) g i)) (i) ((ecM z ((rowAt ((fa_fill (clF g z) g i)) z2) ||| (zI (0)))) &&& (onM (z2 + 1)))))))) := hD
            refine zr_iinc (k := 4) (lv' := [(2, .int (zI (z2 + 1))), (4, .int (zI (0))), (3, .int (rowAt ((fa_fill (clF g z) g i)) z2)), (0, .ref h), (1, .int (zI (z)))]) hx hb dX6_closeAt_65 hl rfl (by decide) rfl (fun ls hl => ?_)
            refine lv_goto (tgt := 2) hx hb dX6_closeAt_68 (by decide) ?_
            have hg9 : ((upd ((fa_fill (clF g z) g i)) (i) ((ecM z ((rowAt ((fa_fill (clF g z) g i)) z2) ||| (zI (0)))) &&& (onM (z2 + 1)))) : Nat → Int32) = fa_fill (clF g z) g (i + 1) := by exact clF_s hz2 (by first | (rw [if_pos (by omega), row_fill (by omega), hz2]) | (rw [if_neg (by omega)])) (by first | (rw [if_pos (by omega), row_fill (by omega), hz2]) | (rw [if_neg (by omega)]))
            rw [hg9] at hP hD
            exact ih_2 (i + 1) (z2 + 1) (by omega) (by omega) (by omega) _ _ hP hD hS _ (lv_sub hl [3, 4, 0] rfl)
          · refine lv_aload_n hx hb dX6_closeAt_31 rfl (lv_at hl 1 rfl) ?_
            refine lv_iload_n hx hb dX6_closeAt_32 rfl (lv_at hl 3 rfl) ?_
            refine zr_const hx hb dX6_closeAt_33 ?_
            refine zr_add hx hb dX6_closeAt_34 ?_
            refine vp_callSi (va_Run.run (va_runV (As := [.int (zI (z2 + 1))]) (rest := []) ⟨hx, hb, hml, hown, hts⟩ (kX6_row l D k L (va_up f r (.inl (k 0, 24, .inl (fa_fill (clF g z) g i)))) h r ((fa_fill (clF g z) g i)) hh ((va_up_ne _ _ (ne_k hfh hfr (by simp))).trans hfh) hr (va_up_self _ _ _) (z2 + 1) (by omega)) (cwV 1 hts gX6_closeAt_X6_row rfl rfl rfl (by decide +kernel) ⟨Nat.le_of_ble_eq_true rfl, Nat.le_of_ble_eq_true rfl⟩) (rc_preV hC hP (pl_recv hK hP hh ((va_up_ne _ _ (ne_k hfh hfr (by simp))).trans hfh) (ci := 5) (q := (RX6, TX6, 1)) rfl)) rfl rfl hl.1 rfl (lv_room (Nat.le_of_ble_eq_true rfl)) dX6_closeAt_35 ⟨Nat.zero_le _, Nat.zero_le _⟩)) (fun r13 hr13 => ?_)
            subst hr13
            refine lv_goto (tgt := 42) hx hb dX6_closeAt_38 (by decide) ?_
            refine lv_istore (lv' := [(4, .int (rowAt ((fa_fill (clF g z) g i)) (z2 + 1))), (3, .int (rowAt ((fa_fill (clF g z) g i)) z2)), (0, .ref h), (1, .int (zI (z))), (2, .int (zI (z2)))]) hx hb dX6_closeAt_42 hl (by decide) rfl (fun ls hl => ?_)
            refine lv_aload_n hx hb dX6_closeAt_44 rfl (lv_at hl 2 rfl) ?_
            refine pl_get (ci := 5) (v := .ref r) (C := RX6) (T := TX6) (N := 1) hx hb hts hi_X6 hown hK hP hh ((va_up_ne _ _ (ne_k hfh hfr (by simp))).trans hfh) rfl 0 (by decide) hw_0 (fun _ h9 => h9) rfl dX6_closeAt_45 ?_
            refine lv_iload_n hx hb dX6_closeAt_48 rfl (lv_at hl 4 rfl) ?_
            refine lv_iload_n hx hb dX6_closeAt_49 rfl (lv_at hl 3 rfl) ?_
            refine lv_iload_n hx hb dX6_closeAt_50 rfl (lv_at hl 1 rfl) ?_
            refine lv_iload hx hb dX6_closeAt_51 (lv_at hl 0 rfl) ?_
            refine lv_ior hx hb dX6_closeAt_53 ?_
            refine vp_callSi (va_Run.run (va_runS (As := [.int (zI (z)), .int ((rowAt ((fa_fill (clF g z) g i)) z2) ||| (rowAt ((fa_fill (clF g z) g i)) (z2 + 1)))]) (rest := [.int (zI (z2)), .ref r]) ⟨hx, hb, hml, hown, hts⟩ (kX6_endsClosedAt l D k L (va_up f r (.inl (k 0, 24, .inl (fa_fill (clF g z) g i)))) (z) (by omega) ((rowAt ((fa_fill (clF g z) g i)) z2) ||| (rowAt ((fa_fill (clF g z) g i)) (z2 + 1)))) (va_cwS 2 hts gX6_closeAt_X6_endsClosedAt rfl rfl rfl (by decide +kernel) ⟨Nat.le_of_ble_eq_true rfl, Nat.le_of_ble_eq_true rfl⟩) (rc_preS hC hP) rfl rfl hl.1 rfl (lv_room (Nat.le_of_ble_eq_true rfl)) dX6_closeAt_54 ⟨Nat.zero_le _, Nat.zero_le _⟩)) (fun r14 hr14 => ?_)
            subst hr14
            refine lv_iload_n hx hb dX6_closeAt_57 rfl (lv_at hl 4 rfl) ?_
            refine zr_const hx hb dX6_closeAt_58 ?_
            refine zr_add hx hb dX6_closeAt_59 ?_
            refine vp_callSi (va_Run.run (va_runSN (As := [.int (zI (z2 + 1))]) (rest := [.int (ecM z ((rowAt ((fa_fill (clF g z) g i)) z2) ||| (rowAt ((fa_fill (clF g z) g i)) (z2 + 1)))), .int (zI (z2)), .ref r]) ⟨hx, hb, hml, hown, hts⟩ (kX9_onwardFrom l D k L (va_up f r (.inl (k 0, 24, .inl (fa_fill (clF g z) g i)))) (z2 + 1) (by omega)) ⟨va_cnB 1 hts gX6_closeAt_X9_onwardFrom_n32 rfl rfl rfl (hNW (.methodLinkNest RX6 32 yX9_onwardFrom "Regionry") (by decide +kernel)) hw_1 (by decide +kernel) ⟨Nat.le_of_ble_eq_true rfl, Nat.le_of_ble_eq_true rfl⟩, hw_2, trivial⟩ (rc_preS hC hP) rfl rfl hl.1 rfl (lv_room (Nat.le_of_ble_eq_true rfl)) dX6_closeAt_60 ⟨Nat.zero_le _, Nat.zero_le _⟩)) (fun r15 hr15 => ?_)
            subst hr15
            refine lv_iand hx hb dX6_closeAt_63 ?_
            refine pl_iast (x := ((ecM z ((rowAt ((fa_fill (clF g z) g i)) z2) ||| (rowAt ((fa_fill (clF g z) g i)) (z2 + 1)))) &&& (onM (z2 + 1)))) hx hb hK hP hD hS hr 0 (va_up_self _ _ _) rfl (i) (by omega) (by omega) (by decide) dX6_closeAt_64 (fun H locs hP hD hS => ?_)
            rw [bx_uu] at hP hD
            have hP : va_P D vwCl (va_pl L (va_up f r (.inl (k 0, 24, .inl (upd ((fa_fill (clF g z) g i)) (i) ((ecM z ((rowAt ((fa_fill (clF g z) g i)) z2) ||| (rowAt ((fa_fill (clF g z) g i)) (z2 + 1)))) &&& (onM (z2 + 1)))))))) H := hP
            have hD : va_D A (va_pl L (va_up f r (.inl (k 0, 24, .inl (upd ((fa_fill (clF g z) g i)) (i) ((ecM z ((rowAt ((fa_fill (clF g z) g i)) z2) ||| (rowAt ((fa_fill (clF g z) g i)) (z2 + 1)))) &&& (onM (z2 + 1)))))))) := hD
            refine zr_iinc (k := 4) (lv' := [(2, .int (zI (z2 + 1))), (4, .int (rowAt ((fa_fill (clF g z) g i)) (z2 + 1))), (3, .int (rowAt ((fa_fill (clF g z) g i)) z2)), (0, .ref h), (1, .int (zI (z)))]) hx hb dX6_closeAt_65 hl rfl (by decide) rfl (fun ls hl => ?_)
            refine lv_goto (tgt := 2) hx hb dX6_closeAt_68 (by decide) ?_
            have hg9 : ((upd ((fa_fill (clF g z) g i)) (i) ((ecM z ((rowAt ((fa_fill (clF g z) g i)) z2) ||| (rowAt ((fa_fill (clF g z) g i)) (z2 + 1)))) &&& (onM (z2 + 1)))) : Nat → Int32) = fa_fill (clF g z) g (i + 1) := by exact clF_s hz2 (by first | (rw [if_pos (by omega), row_fill (by omega), hz2]) | (rw [if_neg (by omega)])) (by first | (rw [if_pos (by omega), row_fill (by omega), hz2]) | (rw [if_neg (by omega)]))
            rw [hg9] at hP hD
            exact ih_2 (i + 1) (z2 + 1) (by omega) (by omega) (by omega) _ _ hP hD hS _ (lv_sub hl [3, 4, 0] rfl)
  rw [← up_id (a := r) hfr] at hP hD
  have hg9 : (g : Nat → Int32) = fa_fill (clF g z) g (0) := by exact (fa_fill_0 _ _).symm
  rw [hg9] at hP hD
  exact cut_2 ((24 - (0) : Int).toNat + 1) (0) (0) (by omega) (by omega) (by omega) _ _ hP hD hS _ (lv_sub hl [1, 2, 0] rfl)

set_option maxHeartbeats 4000000 in
set_option maxRecDepth 100000 in
theorem kX6_join (l : Launch) (D : va_G) (k : Nat → ClassId) (L : List Nat) (f : Nat → va_E) (h r : Nat) (g : Nat → Int32) (hh : h ∈ L) (hfh : f h = .inr (5, [.ref r])) (hr : r ∈ L) (hfr : f r = .inl (k 0, 24, .inl g)) (h1 r1 : Nat) (g1 : Nat → Int32) (hh1 : h1 ∈ L) (hfh1 : f h1 = .inr (5, [.ref r1])) (hr1 : r1 ∈ L) (hfr1 : f r1 = .inl (k 0, 24, .inl g1)) (hrr1 : r1 ≠ r) (h2 r2 : Nat) (g2 : Nat → Int32) (hh2 : h2 ∈ L) (hfh2 : f h2 = .inr (5, [.ref r2])) (hr2 : r2 ∈ L) (hfr2 : f r2 = .inl (k 0, 24, .inl g2)) (hrr2 : r2 ≠ r) (w : Int) (hw : 0 ≤ w ∧ w ≤ 24) (n0 sz : Nat) : Met l yX6_join wsX6_join ({ frames := 2, cells := 0, slots := 0, locals := 40 } : Room) (va_Pc [.ref h, .ref h1, .ref h2, .int (zI (w))] (pPre D (tyL k) n0 (va_pl L f) sz)) (va_Qv (fun u => u = va_pl L (va_up f r (.inl (k 0, 24, .inl (fa_fill (jnF g1 g2 w) g 24))))) (pB D (va_pl L f) sz) (va_A (va_pl L f) sz)) 0 0 (va_A (va_pl L f) sz) := by
  refine Met.ofW (cc := cX6_join) (maxL := 7) (ret := none) (by decide) rfl ?_
  intro p e s m args below meth c s₁ B hml hv
  obtain ⟨rfl, hsz, hn9, hP, hC, hD0⟩ := hv
  have hK := hC.1
  have hNW := hC.2.1
  have hx := B.exec
  have hb := B.bytes
  have hrt := B.returns
  have hts := atoms_spec (ws := wsX6_join) B.pre
  have hown : s.vm.findClass RX6 = some m.cls := findClass_of_methodNamed B.named
  have hlocks := B.notSynchronized
  subst hsz
  obtain ⟨A, hAd⟩ : ∃ A, A = va_A (va_pl L f) s.heap.size := ⟨_, rfl⟩
  have hD := hD0.self (sz := s.heap.size)
  rw [← hAd] at hD
  have hA : ∀ q : Nat, s.heap.size ≤ q → A q := fun q h => by rw [hAd]; exact Or.inr h
  have hAn : ∀ q : Nat, A q → n0 ≤ q := fun q h => by
    rw [hAd] at h
    rcases h with ⟨k9, e9, hk9⟩ | h
    · exact hD0.2 k9 _ hk9
    · exact Nat.le_trans hn9 h
  have hS : va_S A s.heap s.heap [] := va_S.rf
  have hi_X6 : ∀ w ∈ u_ws RX6 TX6 1, w ∈ wsX6_join := by decide +kernel
  have hw_0 := hts (.fieldLink RX6 9 "Regionry$RegionSet" "rows" "[I") (by decide +kernel)
  have hw_1 := hts (.initialized RX9) (by decide +kernel)
  have hw_2 := hts (.static yX9_upTo) (by decide +kernel)
  have hw_3 := hts (.static yX9_onwardFrom) (by decide +kernel)
  have hl := lv_entry ([.ref h, .ref h1, .ref h2, .int (zI (w))]) (n := 7) (Nat.le_of_ble_eq_true rfl)
  rw [lg_entry_eq]
  generalize (lg_sl ([.ref h, .ref h1, .ref h2, .int (zI (w))]) ++ List.replicate (7 - (lg_sl ([.ref h, .ref h1, .ref h2, .int (zI (w))])).length) Slot.unset).toArray = ls at hl ⊢
  have hl : lv_has ls 7 [(0, .ref h), (1, .ref h1), (2, .ref h2), (3, .int (zI (w)))] := hl
  obtain ⟨Q, hQ⟩ : ∃ Q, Q = MQ below (va_Qv (fun u => u = va_pl L (va_up f r (.inl (k 0, 24, .inl (fa_fill (jnF g1 g2 w) g 24))))) (pB D (va_pl L f) s.heap.size) (va_A (va_pl L f) s.heap.size)) ([.ref h, .ref h1, .ref h2, .int (zI (w))] : List Value).toArray s 0 0 (va_A (va_pl L f) s.heap.size) := ⟨_, rfl⟩
  rw [← hQ]
  refine zr_const hx hb dX6_join_0 ?_
  refine lv_istore (lv' := [(4, .int (zI (0))), (0, .ref h), (1, .ref h1), (2, .ref h2), (3, .int (zI (w)))]) hx hb dX6_join_1 hl (by decide) rfl (fun ls hl => ?_)
  have cut_3 : ∀ (n9 : Nat) (a : Nat) (z4 : Int), (a ≤ 24) → (z4 = a) → 24 - z4 < (n9 : Int) → ∀ (H : Heap) (locs : List Loc), va_P D vwCl (va_pl L (va_up f r (.inl (k 0, 24, .inl (fa_fill (jnF g1 g2 w) g a))))) H → va_D A (va_pl L (va_up f r (.inl (k 0, 24, .inl (fa_fill (jnF g1 g2 w) g a))))) → va_S A s.heap H locs → ∀ (ls : Array Slot), lv_has ls 7 [(0, .ref h), (1, .ref h1), (2, .ref h2), (3, .int (zI (w))), (4, .int (zI (z4)))] → W p l e (headSpec wsX6_join ({ frames := 2, cells := 0, slots := 0, locals := 40 } : Room)).room s m ([.ref h, .ref h1, .ref h2, .int (zI (w))] : List Value).toArray below meth c H locs 0 0 Q (F0 m 3 ls []) := by
    intro n9
    induction n9 with
    | zero =>
      intro a z4 ha hz4 hfu
      exact absurd hfu (by omega)
    | succ n9 ih_3 =>
      intro a z4 ha hz4 hfu H locs hP hD hS ls hl
      refine lv_iload hx hb dX6_join_3 (lv_at hl 4 rfl) ?_
      refine lv_aload_n hx hb dX6_join_5 rfl (lv_at hl 0 rfl) ?_
      refine pl_get (ci := 5) (v := .ref r) (C := RX6) (T := TX6) (N := 1) hx hb hts hi_X6 hown hK hP hh ((va_up_ne _ _ (ne_k hfh hfr (by simp))).trans hfh) rfl 0 (by decide) hw_0 (fun _ h9 => h9) rfl dX6_join_6 ?_
      refine pl_alen (ty := .int) hx hb hK hP hr 0 (va_up_self _ _ _) rfl (24) rfl dX6_join_9 ?_
      refine zr_icmp_ge (tgt := 92) hx hb dX6_join_10 (by decide) (by omega) (by omega) (fun c1 => ?_) (fun c1 => ?_)
      · rw [hQ]
        exact pc_vret hx hb hrt hP (by rw [← hAd]; exact hD) (by rw [← hAd]; exact hS) (by obtain rfl : a = 24 := (by omega); rfl) dX6_join_92 hlocks
      · refine lv_aload_n hx hb dX6_join_13 rfl (lv_at hl 0 rfl) ?_
        refine pl_get (ci := 5) (v := .ref r) (C := RX6) (T := TX6) (N := 1) hx hb hts hi_X6 hown hK hP hh ((va_up_ne _ _ (ne_k hfh hfr (by simp))).trans hfh) rfl 0 (by decide) hw_0 (fun _ h9 => h9) rfl dX6_join_14 ?_
        refine lv_iload hx hb dX6_join_17 (lv_at hl 4 rfl) ?_
        refine zr_const hx hb dX6_join_19 ?_
        refine pl_iast (x := (zI (0))) hx hb hK hP hD hS hr 0 (va_up_self _ _ _) rfl (a) (by omega) (by omega) (by decide) dX6_join_20 (fun H locs hP hD hS => ?_)
        rw [bx_uu] at hP hD
        have hP : va_P D vwCl (va_pl L (va_up f r (.inl (k 0, 24, .inl (upd ((fa_fill (jnF g1 g2 w) g a)) (a) (zI (0))))))) H := hP
        have hD : va_D A (va_pl L (va_up f r (.inl (k 0, 24, .inl (upd ((fa_fill (jnF g1 g2 w) g a)) (a) (zI (0))))))) := hD
        refine lv_iload hx hb dX6_join_21 (lv_at hl 4 rfl) ?_
        refine zr_const hx hb dX6_join_23 ?_
        refine zr_add hx hb dX6_join_24 ?_
        refine lv_istore (lv' := [(5, .int (zI (z4 + 1))), (0, .ref h), (1, .ref h1), (2, .ref h2), (3, .int (zI (w))), (4, .int (zI (z4)))]) hx hb dX6_join_25 hl (by decide) rfl (fun ls hl => ?_)
        have cut_27 : ∀ (n9 : Nat) (n : Nat) (z5 : Int), ((n : Int) ≤ 23 - a) → (z5 = a + 1 + n) → 24 - z5 < (n9 : Int) → ∀ (H : Heap) (locs : List Loc), va_P D vwCl (va_pl L (va_up f r (.inl (k 0, 24, .inl (upd (fa_fill (jnF g1 g2 w) g a) a (jnA g1 g2 w a n)))))) H → va_D A (va_pl L (va_up f r (.inl (k 0, 24, .inl (upd (fa_fill (jnF g1 g2 w) g a) a (jnA g1 g2 w a n)))))) → va_S A s.heap H locs → ∀ (ls : Array Slot), lv_has ls 7 [(0, .ref h), (1, .ref h1), (2, .ref h2), (3, .int (zI (w))), (4, .int (zI (z4))), (5, .int (zI (z5)))] → W p l e (headSpec wsX6_join ({ frames := 2, cells := 0, slots := 0, locals := 40 } : Room)).room s m ([.ref h, .ref h1, .ref h2, .int (zI (w))] : List Value).toArray below meth c H locs 0 0 Q (F0 m 27 ls []) := by
          intro n9
          induction n9 with
          | zero =>
            intro n z5 hn5 hz5 hfu
            exact absurd hfu (by omega)
          | succ n9 ih_27 =>
            intro n z5 hn5 hz5 hfu H locs hP hD hS ls hl
            refine lv_iload hx hb dX6_join_27 (lv_at hl 5 rfl) ?_
            refine lv_aload_n hx hb dX6_join_29 rfl (lv_at hl 0 rfl) ?_
            refine pl_get (ci := 5) (v := .ref r) (C := RX6) (T := TX6) (N := 1) hx hb hts hi_X6 hown hK hP hh ((va_up_ne _ _ (ne_k hfh hfr (by simp))).trans hfh) rfl 0 (by decide) hw_0 (fun _ h9 => h9) rfl dX6_join_30 ?_
            refine pl_alen (ty := .int) hx hb hK hP hr 0 (va_up_self _ _ _) rfl (24) rfl dX6_join_33 ?_
            refine zr_icmp_ge (tgt := 86) hx hb dX6_join_34 (by decide) (by omega) (by omega) (fun c2 => ?_) (fun c2 => ?_)
            · refine zr_iinc (k := 4) (lv' := [(4, .int (zI (z4 + 1))), (0, .ref h), (1, .ref h1), (2, .ref h2), (3, .int (zI (w))), (5, .int (zI (z5)))]) hx hb dX6_join_86 hl rfl (by decide) rfl (fun ls hl => ?_)
              refine lv_goto (tgt := 3) hx hb dX6_join_89 (by decide) ?_
              have hg9 : ((upd (fa_fill (jnF g1 g2 w) g a) a (jnA g1 g2 w a n)) : Nat → Int32) = fa_fill (jnF g1 g2 w) g (a + 1) := by exact jn_e (by omega)
              rw [hg9] at hP hD
              exact ih_3 (a + 1) (z4 + 1) (by omega) (by omega) (by omega) _ _ hP hD hS _ (lv_sub hl [1, 2, 3, 4, 0] rfl)
            · refine lv_iload hx hb dX6_join_37 (lv_at hl 5 rfl) ?_
              refine vp_callSi (va_Run.run (va_runSN (As := [.int (zI (z5))]) (rest := []) ⟨hx, hb, hml, hown, hts⟩ (kX9_upTo l D k L (va_up f r (.inl (k 0, 24, .inl (upd (fa_fill (jnF g1 g2 w) g a) a (jnA g1 g2 w a n))))) (z5) (by omega)) ⟨va_cnB 1 hts gX6_join_X9_upTo_n53 rfl rfl rfl (hNW (.methodLinkNest RX6 53 yX9_upTo "Regionry") (by decide +kernel)) hw_1 (by decide +kernel) ⟨Nat.le_of_ble_eq_true rfl, Nat.le_of_ble_eq_true rfl⟩, hw_2, trivial⟩ (rc_preS hC hP) rfl rfl hl.1 rfl (lv_room (Nat.le_of_ble_eq_true rfl)) dX6_join_39 ⟨Nat.zero_le _, Nat.zero_le _⟩)) (fun r3 hr3 => ?_)
              subst hr3
              refine lv_iload hx hb dX6_join_42 (lv_at hl 5 rfl) ?_
              refine lv_iload_n hx hb dX6_join_44 rfl (lv_at hl 3 rfl) ?_
              refine zr_sub hx hb dX6_join_45 ?_
              refine vp_callSi (va_Run.run (va_runSN (As := [.int (zI (z5 - w))]) (rest := [.int (upM z5)]) ⟨hx, hb, hml, hown, hts⟩ (kX9_onwardFrom l D k L (va_up f r (.inl (k 0, 24, .inl (upd (fa_fill (jnF g1 g2 w) g a) a (jnA g1 g2 w a n))))) (z5 - w) (by omega)) ⟨va_cnB 1 hts gX6_join_X9_onwardFrom_n32 rfl rfl rfl (hNW (.methodLinkNest RX6 32 yX9_onwardFrom "Regionry") (by decide +kernel)) hw_1 (by decide +kernel) ⟨Nat.le_of_ble_eq_true rfl, Nat.le_of_ble_eq_true rfl⟩, hw_3, trivial⟩ (rc_preS hC hP) rfl rfl hl.1 rfl (lv_room (Nat.le_of_ble_eq_true rfl)) dX6_join_46 ⟨Nat.zero_le _, Nat.zero_le _⟩)) (fun r4 hr4 => ?_)
              subst hr4
              refine lv_iand hx hb dX6_join_49 ?_
              refine lv_istore (lv' := [(6, .int ((upM z5) &&& (onM (z5 - w)))), (0, .ref h), (1, .ref h1), (2, .ref h2), (3, .int (zI (w))), (4, .int (zI (z4))), (5, .int (zI (z5)))]) hx hb dX6_join_50 hl (by decide) rfl (fun ls hl => ?_)
              refine lv_aload_n hx hb dX6_join_52 rfl (lv_at hl 2 rfl) ?_
              refine lv_iload hx hb dX6_join_53 (lv_at hl 5 rfl) ?_
              refine vp_callSi (va_Run.run (va_runV (As := [.int (zI (z4))]) (rest := []) ⟨hx, hb, hml, hown, hts⟩ (kX6_row l D k L (va_up f r (.inl (k 0, 24, .inl (upd (fa_fill (jnF g1 g2 w) g a) a (jnA g1 g2 w a n))))) h1 r1 g1 hh1 ((va_up_ne _ _ (ne_k hfh1 hfr (by simp))).trans hfh1) hr1 ((va_up_ne _ _ hrr1).trans hfr1) (z4) (by omega)) (cwV 1 hts gX6_join_X6_row rfl rfl rfl (by decide +kernel) ⟨Nat.le_of_ble_eq_true rfl, Nat.le_of_ble_eq_true rfl⟩) (rc_preV hC hP (pl_recv hK hP hh1 ((va_up_ne _ _ (ne_k hfh1 hfr (by simp))).trans hfh1) (ci := 5) (q := (RX6, TX6, 1)) rfl)) rfl rfl hl.1 rfl (lv_room (Nat.le_of_ble_eq_true rfl)) dX6_join_55 ⟨Nat.zero_le _, Nat.zero_le _⟩)) (fun r5 hr5 => ?_)
              subst hr5
              refine lv_iload hx hb dX6_join_58 (lv_at hl 0 rfl) ?_
              refine lv_iand hx hb dX6_join_60 ?_
              refine lv_if_eq (tgt := 80) hx hb dX6_join_61 (by decide) (fun c6 => ?_) (fun c6 => ?_)
              · refine zr_iinc (k := 6) (lv' := [(5, .int (zI (z5 + 1))), (6, .int ((upM z5) &&& (onM (z5 - w)))), (0, .ref h), (1, .ref h1), (2, .ref h2), (3, .int (zI (w))), (4, .int (zI (z4)))]) hx hb dX6_join_80 hl rfl (by decide) rfl (fun ls hl => ?_)
                refine lv_goto (tgt := 27) hx hb dX6_join_83 (by decide) ?_
                have hg9 : ((upd (fa_fill (jnF g1 g2 w) g a) a (jnA g1 g2 w a n)) : Nat → Int32) = upd (fa_fill (jnF g1 g2 w) g a) a (jnA g1 g2 w a (n + 1)) := by first | exact jn_s1 hz4 hz5 (by assumption) | exact congrArg (upd _ a) (jn_f hz4 hz5 (by assumption)).symm
                rw [hg9] at hP hD
                exact ih_27 (n + 1) (z5 + 1) (by omega) (by omega) (by omega) _ _ hP hD hS _ (lv_sub hl [2, 3, 4, 5, 6, 0] rfl)
              · refine lv_aload_n hx hb dX6_join_64 rfl (lv_at hl 1 rfl) ?_
                refine pl_get (ci := 5) (v := .ref r) (C := RX6) (T := TX6) (N := 1) hx hb hts hi_X6 hown hK hP hh ((va_up_ne _ _ (ne_k hfh hfr (by simp))).trans hfh) rfl 0 (by decide) hw_0 (fun _ h9 => h9) rfl dX6_join_65 ?_
                refine lv_iload hx hb dX6_join_68 (lv_at hl 5 rfl) ?_
                refine lv_dup2_11 hx hb dX6_join_70 rfl rfl ?_
                refine pl_iald hx hb hK hP hr 0 (va_up_self _ _ _) rfl (a) (by omega) (by omega) (by decide) dX6_join_71 ?_
                refine lv_aload_n hx hb dX6_join_72 rfl (lv_at hl 3 rfl) ?_
                refine lv_iload hx hb dX6_join_73 (lv_at hl 6 rfl) ?_
                refine vp_callSi (va_Run.run (va_runV (As := [.int (zI (z5))]) (rest := [.int (((upd (fa_fill (jnF g1 g2 w) g a) a (jnA g1 g2 w a n))) (a)), .int (zI (z4)), .ref r]) ⟨hx, hb, hml, hown, hts⟩ (kX6_row l D k L (va_up f r (.inl (k 0, 24, .inl (upd (fa_fill (jnF g1 g2 w) g a) a (jnA g1 g2 w a n))))) h2 r2 g2 hh2 ((va_up_ne _ _ (ne_k hfh2 hfr (by simp))).trans hfh2) hr2 ((va_up_ne _ _ hrr2).trans hfr2) (z5) (by omega)) (cwV 1 hts gX6_join_X6_row rfl rfl rfl (by decide +kernel) ⟨Nat.le_of_ble_eq_true rfl, Nat.le_of_ble_eq_true rfl⟩) (rc_preV hC hP (pl_recv hK hP hh2 ((va_up_ne _ _ (ne_k hfh2 hfr (by simp))).trans hfh2) (ci := 5) (q := (RX6, TX6, 1)) rfl)) rfl rfl hl.1 rfl (lv_room (Nat.le_of_ble_eq_true rfl)) dX6_join_75 ⟨Nat.zero_le _, Nat.zero_le _⟩)) (fun r7 hr7 => ?_)
                subst hr7
                refine lv_ior hx hb dX6_join_78 ?_
                refine pl_iast (x := ((((upd (fa_fill (jnF g1 g2 w) g a) a (jnA g1 g2 w a n))) (a)) ||| (rowAt g2 z5))) hx hb hK hP hD hS hr 0 (va_up_self _ _ _) rfl (a) (by omega) (by omega) (by decide) dX6_join_79 (fun H locs hP hD hS => ?_)
                rw [bx_uu] at hP hD
                have hP : va_P D vwCl (va_pl L (va_up f r (.inl (k 0, 24, .inl (upd ((upd (fa_fill (jnF g1 g2 w) g a) a (jnA g1 g2 w a n))) (a) ((((upd (fa_fill (jnF g1 g2 w) g a) a (jnA g1 g2 w a n))) (a)) ||| (rowAt g2 z5))))))) H := hP
                have hD : va_D A (va_pl L (va_up f r (.inl (k 0, 24, .inl (upd ((upd (fa_fill (jnF g1 g2 w) g a) a (jnA g1 g2 w a n))) (a) ((((upd (fa_fill (jnF g1 g2 w) g a) a (jnA g1 g2 w a n))) (a)) ||| (rowAt g2 z5))))))) := hD
                refine zr_iinc (k := 6) (lv' := [(5, .int (zI (z5 + 1))), (6, .int ((upM z5) &&& (onM (z5 - w)))), (0, .ref h), (1, .ref h1), (2, .ref h2), (3, .int (zI (w))), (4, .int (zI (z4)))]) hx hb dX6_join_80 hl rfl (by decide) rfl (fun ls hl => ?_)
                refine lv_goto (tgt := 27) hx hb dX6_join_83 (by decide) ?_
                have hg9 : ((upd ((upd (fa_fill (jnF g1 g2 w) g a) a (jnA g1 g2 w a n))) (a) ((((upd (fa_fill (jnF g1 g2 w) g a) a (jnA g1 g2 w a n))) (a)) ||| (rowAt g2 z5))) : Nat → Int32) = upd (fa_fill (jnF g1 g2 w) g a) a (jnA g1 g2 w a (n + 1)) := by first | exact jn_s1 hz4 hz5 (by assumption) | exact congrArg (upd _ a) (jn_f hz4 hz5 (by assumption)).symm
                rw [hg9] at hP hD
                exact ih_27 (n + 1) (z5 + 1) (by omega) (by omega) (by omega) _ _ hP hD hS _ (lv_sub hl [2, 3, 4, 5, 6, 0] rfl)
        have hg9 : ((upd ((fa_fill (jnF g1 g2 w) g a)) (a) (zI (0))) : Nat → Int32) = upd (fa_fill (jnF g1 g2 w) g a) a (jnA g1 g2 w a (0)) := by rfl
        rw [hg9] at hP hD
        exact cut_27 ((24 - (z4 + 1) : Int).toNat + 1) (0) (z4 + 1) (by omega) (by omega) (by omega) _ _ hP hD hS _ (lv_sub hl [1, 2, 3, 4, 5, 0] rfl)
  rw [← up_id (a := r) hfr] at hP hD
  have hg9 : (g : Nat → Int32) = fa_fill (jnF g1 g2 w) g (0) := by exact (fa_fill_0 _ _).symm
  rw [hg9] at hP hD
  exact cut_3 ((24 - (0) : Int).toNat + 1) (0) (0) (by omega) (by omega) (by omega) _ _ hP hD hS _ (lv_sub hl [1, 2, 3, 4, 0] rfl)

set_option maxHeartbeats 4000000 in
set_option maxRecDepth 100000 in
theorem kX6_keepInner (l : Launch) (D : va_G) (k : Nat → ClassId) (L : List Nat) (f : Nat → va_E) (h r : Nat) (g : Nat → Int32) (hh : h ∈ L) (hfh : f h = .inr (5, [.ref r])) (hr : r ∈ L) (hfr : f r = .inl (k 0, 24, .inl g)) (n0 sz : Nat) : Met l yX6_keepInner wsX6_keepInner ({ frames := 2, cells := 0, slots := 0, locals := 44 } : Room) (va_Pc [.ref h] (pPre D (tyL k) n0 (va_pl L f) sz)) (va_Qv (fun u => u = va_pl L (va_up f r (.inl (k 0, 24, .inl (fa_fill (kiF g) g 24))))) (pB D (va_pl L f) sz) (va_A (va_pl L f) sz)) 0 0 (va_A (va_pl L f) sz) := by
  refine Met.ofW (cc := cX6_keepInner) (maxL := 4) (ret := none) (by decide) rfl ?_
  intro p e s m args below meth c s₁ B hml hv
  obtain ⟨rfl, hsz, hn9, hP, hC, hD0⟩ := hv
  have hK := hC.1
  have hNW := hC.2.1
  have hx := B.exec
  have hb := B.bytes
  have hrt := B.returns
  have hts := atoms_spec (ws := wsX6_keepInner) B.pre
  have hown : s.vm.findClass RX6 = some m.cls := findClass_of_methodNamed B.named
  have hlocks := B.notSynchronized
  subst hsz
  obtain ⟨A, hAd⟩ : ∃ A, A = va_A (va_pl L f) s.heap.size := ⟨_, rfl⟩
  have hD := hD0.self (sz := s.heap.size)
  rw [← hAd] at hD
  have hA : ∀ q : Nat, s.heap.size ≤ q → A q := fun q h => by rw [hAd]; exact Or.inr h
  have hAn : ∀ q : Nat, A q → n0 ≤ q := fun q h => by
    rw [hAd] at h
    rcases h with ⟨k9, e9, hk9⟩ | h
    · exact hD0.2 k9 _ hk9
    · exact Nat.le_trans hn9 h
  have hS : va_S A s.heap s.heap [] := va_S.rf
  have hi_X6 : ∀ w ∈ u_ws RX6 TX6 1, w ∈ wsX6_keepInner := by decide +kernel
  have hw_0 := hts (.fieldLink RX6 9 "Regionry$RegionSet" "rows" "[I") (by decide +kernel)
  have hw_1 := hts (.methodLink RX6 59 Lib.Math.min.name) (by decide +kernel)
  have hw_2 := hts (.static Lib.Math.min.name) (by decide +kernel)
  have hw_3 := hts (.initialized "java/lang/Math") (by decide +kernel)
  have hw_4 := hts (.code Lib.Math.min.name Lib.Math.min.code 2 (some .int)) (by decide +kernel)
  have hl := lv_entry ([.ref h]) (n := 4) (Nat.le_of_ble_eq_true rfl)
  rw [lg_entry_eq]
  generalize (lg_sl ([.ref h]) ++ List.replicate (4 - (lg_sl ([.ref h])).length) Slot.unset).toArray = ls at hl ⊢
  have hl : lv_has ls 4 [(0, .ref h)] := hl
  obtain ⟨Q, hQ⟩ : ∃ Q, Q = MQ below (va_Qv (fun u => u = va_pl L (va_up f r (.inl (k 0, 24, .inl (fa_fill (kiF g) g 24))))) (pB D (va_pl L f) s.heap.size) (va_A (va_pl L f) s.heap.size)) ([.ref h] : List Value).toArray s 0 0 (va_A (va_pl L f) s.heap.size) := ⟨_, rfl⟩
  rw [← hQ]
  refine zr_bipush hx hb dX6_keepInner_0 (by decide) ?_
  refine lv_istore_n (lv' := [(1, .int (zI (25))), (0, .ref h)]) hx hb dX6_keepInner_2 rfl hl (by decide) rfl (fun ls hl => ?_)
  refine lv_aload_n hx hb dX6_keepInner_3 rfl (lv_at hl 1 rfl) ?_
  refine pl_get (ci := 5) (v := .ref r) (C := RX6) (T := TX6) (N := 1) hx hb hts hi_X6 hown hK hP hh hfh rfl 0 (by decide) hw_0 (fun _ h9 => h9) rfl dX6_keepInner_4 ?_
  refine pl_alen (ty := .int) hx hb hK hP hr 0 hfr rfl (24) rfl dX6_keepInner_7 ?_
  refine zr_const hx hb dX6_keepInner_8 ?_
  refine zr_sub hx hb dX6_keepInner_9 ?_
  refine lv_istore_n (lv' := [(2, .int (zI (24 - 1))), (1, .int (zI (25))), (0, .ref h)]) hx hb dX6_keepInner_10 rfl hl (by decide) rfl (fun ls hl => ?_)
  have cut_11 : ∀ (n9 : Nat) (z2 : Int) (z1 : Int), (-1 ≤ z2 ∧ z2 ≤ 23) → (0 ≤ z1 ∧ z1 ≤ 25) → (z1 = ((nrF g (23 - z2).toNat : Nat) : Int)) → z2 + 1 < (n9 : Int) → ∀ (H : Heap) (locs : List Loc), va_P D vwCl (va_pl L (va_up f r (.inl (k 0, 24, .inl (ki1 g z2))))) H → va_D A (va_pl L (va_up f r (.inl (k 0, 24, .inl (ki1 g z2))))) → va_S A s.heap H locs → ∀ (ls : Array Slot), lv_has ls 4 [(0, .ref h), (1, .int (zI (z1))), (2, .int (zI (z2)))] → W p l e (headSpec wsX6_keepInner ({ frames := 2, cells := 0, slots := 0, locals := 44 } : Room)).room s m ([.ref h] : List Value).toArray below meth c H locs 0 0 Q (F0 m 11 ls []) := by
    intro n9
    induction n9 with
    | zero =>
      intro z2 z1 hz2 hb1 hz1 hfu
      exact absurd hfu (by omega)
    | succ n9 ih_11 =>
      intro z2 z1 hz2 hb1 hz1 hfu H locs hP hD hS ls hl
      refine lv_iload_n hx hb dX6_keepInner_11 rfl (lv_at hl 2 rfl) ?_
      refine zr_if_lt (tgt := 51) hx hb dX6_keepInner_12 (by decide) (by omega) (fun c1 => ?_) (fun c1 => ?_)
      · rw [hQ]
        exact pc_vret hx hb hrt hP (by rw [← hAd]; exact hD) (by rw [← hAd]; exact hS) (by obtain rfl : z2 = -1 := (by omega); rw [ki1_e]) dX6_keepInner_51 hlocks
      · refine lv_aload_n hx hb dX6_keepInner_15 rfl (lv_at hl 0 rfl) ?_
        refine lv_iload_n hx hb dX6_keepInner_16 rfl (lv_at hl 2 rfl) ?_
        refine vp_callSi (va_Run.run (va_runV (As := [.int (zI (z2))]) (rest := []) ⟨hx, hb, hml, hown, hts⟩ (kX6_lowestEnd l D k L (va_up f r (.inl (k 0, 24, .inl (ki1 g z2)))) h r ((ki1 g z2)) hh ((va_up_ne _ _ (ne_k hfh hfr (by simp))).trans hfh) hr (va_up_self _ _ _) (z2) (by omega)) (cwV 1 hts gX6_keepInner_X6_lowestEnd rfl rfl rfl (by decide +kernel) ⟨Nat.le_of_ble_eq_true rfl, Nat.le_of_ble_eq_true rfl⟩) (rc_preV hC hP (pl_recv hK hP hh ((va_up_ne _ _ (ne_k hfh hfr (by simp))).trans hfh) (ci := 5) (q := (RX6, TX6, 1)) rfl)) rfl rfl hl.1 rfl (lv_room (Nat.le_of_ble_eq_true rfl)) dX6_keepInner_17 ⟨Nat.zero_le _, Nat.zero_le _⟩)) (fun r2 hr2 => ?_)
        subst hr2
        have hlo9 := lowE_le (rowAt (ki1 g z2) z2) z2
        have hlg9 := lowE_gt (x := rowAt (ki1 g z2) z2) (a := z2) (by omega)
        refine lv_istore_n (lv' := [(3, .int (zI (((lowE (rowAt ((ki1 g z2)) z2) z2 : Nat) : Int)))), (0, .ref h), (1, .int (zI (z1))), (2, .int (zI (z2)))]) hx hb dX6_keepInner_20 rfl hl (by decide) rfl (fun ls hl => ?_)
        refine lv_aload_n hx hb dX6_keepInner_21 rfl (lv_at hl 1 rfl) ?_
        refine pl_get (ci := 5) (v := .ref r) (C := RX6) (T := TX6) (N := 1) hx hb hts hi_X6 hown hK hP hh ((va_up_ne _ _ (ne_k hfh hfr (by simp))).trans hfh) rfl 0 (by decide) hw_0 (fun _ h9 => h9) rfl dX6_keepInner_22 ?_
        refine lv_iload_n hx hb dX6_keepInner_25 rfl (lv_at hl 3 rfl) ?_
        refine lv_iload_n hx hb dX6_keepInner_26 rfl (lv_at hl 0 rfl) ?_
        refine lv_iload_n hx hb dX6_keepInner_27 rfl (lv_at hl 2 rfl) ?_
        refine zr_icmp_ge (tgt := 37) hx hb dX6_keepInner_28 (by decide) (by omega) (by omega) (fun c3 => ?_) (fun c3 => ?_)
        · refine zr_const hx hb dX6_keepInner_37 ?_
          refine pl_iast (x := (zI (0))) hx hb hK hP hD hS hr 0 (va_up_self _ _ _) rfl ((z2).toNat) (by omega) (by omega) (by decide) dX6_keepInner_38 (fun H locs hP hD hS => ?_)
          rw [bx_uu] at hP hD
          have hP : va_P D vwCl (va_pl L (va_up f r (.inl (k 0, 24, .inl (upd ((ki1 g z2)) ((z2).toNat) (zI (0))))))) H := hP
          have hD : va_D A (va_pl L (va_up f r (.inl (k 0, 24, .inl (upd ((ki1 g z2)) ((z2).toNat) (zI (0))))))) := hD
          refine lv_iload_n hx hb dX6_keepInner_39 rfl (lv_at hl 2 rfl) ?_
          refine lv_iload_n hx hb dX6_keepInner_40 rfl (lv_at hl 0 rfl) ?_
          refine va_mmin hx hb (hml.trans hl.1.symm) hown hw_1 hw_2 hw_3 hw_4 (Nat.le_of_ble_eq_true rfl) (Nat.le_of_ble_eq_true rfl) (Nat.zero_le _) (Nat.zero_le _) dX6_keepInner_41 ?_
          refine zr_top (zI_min (by omega) (by omega)) ?_
          refine lv_istore_n (lv' := [(1, .int (zI (min z1 (((lowE (rowAt ((ki1 g z2)) z2) z2 : Nat) : Int))))), (3, .int (zI (((lowE (rowAt ((ki1 g z2)) z2) z2 : Nat) : Int)))), (0, .ref h), (2, .int (zI (z2)))]) hx hb dX6_keepInner_44 rfl hl (by decide) rfl (fun ls hl => ?_)
          refine zr_iinc (k := 3) (lv' := [(2, .int (zI (z2 + (-1)))), (1, .int (zI (min z1 (((lowE (rowAt ((ki1 g z2)) z2) z2 : Nat) : Int))))), (3, .int (zI (((lowE (rowAt ((ki1 g z2)) z2) z2 : Nat) : Int)))), (0, .ref h)]) hx hb dX6_keepInner_45 hl rfl (by decide) rfl (fun ls hl => ?_)
          refine lv_goto (tgt := 11) hx hb dX6_keepInner_48 (by decide) ?_
          have hg9 : ((upd ((ki1 g z2)) ((z2).toNat) (zI (0))) : Nat → Int32) = ki1 g (z2 + (-1)) := by exact ki1_s (by omega) (by first | exact ki1_x1 (by omega) hz1 (by assumption) | exact ki1_x0 (by omega) hz1 (by assumption))
          rw [hg9] at hP hD
          exact ih_11 (z2 + (-1)) (min z1 (((lowE (rowAt ((ki1 g z2)) z2) z2 : Nat) : Int))) (by omega) (by omega) (ki1_n (by omega) hz1) (by omega) _ _ hP hD hS _ (lv_sub hl [3, 1, 0] rfl)
        · refine zr_const hx hb dX6_keepInner_31 ?_
          refine lv_iload_n hx hb dX6_keepInner_32 rfl (lv_at hl 0 rfl) ?_
          refine zr_shl1 hx hb (by omega) dX6_keepInner_33 ?_
          refine lv_goto (tgt := 38) hx hb dX6_keepInner_34 (by decide) ?_
          refine pl_iast (x := (pw (((lowE (rowAt ((ki1 g z2)) z2) z2 : Nat) : Int)).toNat)) hx hb hK hP hD hS hr 0 (va_up_self _ _ _) rfl ((z2).toNat) (by omega) (by omega) (by decide) dX6_keepInner_38 (fun H locs hP hD hS => ?_)
          rw [bx_uu] at hP hD
          have hP : va_P D vwCl (va_pl L (va_up f r (.inl (k 0, 24, .inl (upd ((ki1 g z2)) ((z2).toNat) (pw (((lowE (rowAt ((ki1 g z2)) z2) z2 : Nat) : Int)).toNat)))))) H := hP
          have hD : va_D A (va_pl L (va_up f r (.inl (k 0, 24, .inl (upd ((ki1 g z2)) ((z2).toNat) (pw (((lowE (rowAt ((ki1 g z2)) z2) z2 : Nat) : Int)).toNat)))))) := hD
          refine lv_iload_n hx hb dX6_keepInner_39 rfl (lv_at hl 2 rfl) ?_
          refine lv_iload_n hx hb dX6_keepInner_40 rfl (lv_at hl 0 rfl) ?_
          refine va_mmin hx hb (hml.trans hl.1.symm) hown hw_1 hw_2 hw_3 hw_4 (Nat.le_of_ble_eq_true rfl) (Nat.le_of_ble_eq_true rfl) (Nat.zero_le _) (Nat.zero_le _) dX6_keepInner_41 ?_
          refine zr_top (zI_min (by omega) (by omega)) ?_
          refine lv_istore_n (lv' := [(1, .int (zI (min z1 (((lowE (rowAt ((ki1 g z2)) z2) z2 : Nat) : Int))))), (3, .int (zI (((lowE (rowAt ((ki1 g z2)) z2) z2 : Nat) : Int)))), (0, .ref h), (2, .int (zI (z2)))]) hx hb dX6_keepInner_44 rfl hl (by decide) rfl (fun ls hl => ?_)
          refine zr_iinc (k := 3) (lv' := [(2, .int (zI (z2 + (-1)))), (1, .int (zI (min z1 (((lowE (rowAt ((ki1 g z2)) z2) z2 : Nat) : Int))))), (3, .int (zI (((lowE (rowAt ((ki1 g z2)) z2) z2 : Nat) : Int)))), (0, .ref h)]) hx hb dX6_keepInner_45 hl rfl (by decide) rfl (fun ls hl => ?_)
          refine lv_goto (tgt := 11) hx hb dX6_keepInner_48 (by decide) ?_
          have hg9 : ((upd ((ki1 g z2)) ((z2).toNat) (pw (((lowE (rowAt ((ki1 g z2)) z2) z2 : Nat) : Int)).toNat)) : Nat → Int32) = ki1 g (z2 + (-1)) := by exact ki1_s (by omega) (by first | exact ki1_x1 (by omega) hz1 (by assumption) | exact ki1_x0 (by omega) hz1 (by assumption))
          rw [hg9] at hP hD
          exact ih_11 (z2 + (-1)) (min z1 (((lowE (rowAt ((ki1 g z2)) z2) z2 : Nat) : Int))) (by omega) (by omega) (ki1_n (by omega) hz1) (by omega) _ _ hP hD hS _ (lv_sub hl [3, 1, 0] rfl)
  rw [← up_id (a := r) hfr] at hP hD
  have hg9 : (g : Nat → Int32) = ki1 g (24 - 1) := by exact (ki1_0 g).symm
  rw [hg9] at hP hD
  exact cut_11 (((24 - 1) + 1 : Int).toNat + 1) (24 - 1) (25) (by omega) (by omega) (rfl) (by omega) _ _ hP hD hS _ (lv_sub hl [2, 1, 0] rfl)

set_option maxHeartbeats 4000000 in
set_option maxRecDepth 100000 in
theorem kX6_keepOuter (l : Launch) (D : va_G) (k : Nat → ClassId) (L : List Nat) (f : Nat → va_E) (h r : Nat) (g : Nat → Int32) (hh : h ∈ L) (hfh : f h = .inr (5, [.ref r])) (hr : r ∈ L) (hfr : f r = .inl (k 0, 24, .inl g)) (n0 sz : Nat) : Met l yX6_keepOuter wsX6_keepOuter ({ frames := 2, cells := 0, slots := 0, locals := 44 } : Room) (va_Pc [.ref h] (pPre D (tyL k) n0 (va_pl L f) sz)) (va_Qv (fun u => u = va_pl L (va_up f r (.inl (k 0, 24, .inl (fa_fill (koF g) g 24))))) (pB D (va_pl L f) sz) (va_A (va_pl L f) sz)) 0 0 (va_A (va_pl L f) sz) := by
  refine Met.ofW (cc := cX6_keepOuter) (maxL := 4) (ret := none) (by decide) rfl ?_
  intro p e s m args below meth c s₁ B hml hv
  obtain ⟨rfl, hsz, hn9, hP, hC, hD0⟩ := hv
  have hK := hC.1
  have hNW := hC.2.1
  have hx := B.exec
  have hb := B.bytes
  have hrt := B.returns
  have hts := atoms_spec (ws := wsX6_keepOuter) B.pre
  have hown : s.vm.findClass RX6 = some m.cls := findClass_of_methodNamed B.named
  have hlocks := B.notSynchronized
  subst hsz
  obtain ⟨A, hAd⟩ : ∃ A, A = va_A (va_pl L f) s.heap.size := ⟨_, rfl⟩
  have hD := hD0.self (sz := s.heap.size)
  rw [← hAd] at hD
  have hA : ∀ q : Nat, s.heap.size ≤ q → A q := fun q h => by rw [hAd]; exact Or.inr h
  have hAn : ∀ q : Nat, A q → n0 ≤ q := fun q h => by
    rw [hAd] at h
    rcases h with ⟨k9, e9, hk9⟩ | h
    · exact hD0.2 k9 _ hk9
    · exact Nat.le_trans hn9 h
  have hS : va_S A s.heap s.heap [] := va_S.rf
  have hi_X6 : ∀ w ∈ u_ws RX6 TX6 1, w ∈ wsX6_keepOuter := by decide +kernel
  have hw_0 := hts (.fieldLink RX6 9 "Regionry$RegionSet" "rows" "[I") (by decide +kernel)
  have hw_1 := hts (.methodLink RX6 38 Lib.Math.max.name) (by decide +kernel)
  have hw_2 := hts (.static Lib.Math.max.name) (by decide +kernel)
  have hw_3 := hts (.initialized "java/lang/Math") (by decide +kernel)
  have hw_4 := hts (.code Lib.Math.max.name Lib.Math.max.code 2 (some .int)) (by decide +kernel)
  have hl := lv_entry ([.ref h]) (n := 4) (Nat.le_of_ble_eq_true rfl)
  rw [lg_entry_eq]
  generalize (lg_sl ([.ref h]) ++ List.replicate (4 - (lg_sl ([.ref h])).length) Slot.unset).toArray = ls at hl ⊢
  have hl : lv_has ls 4 [(0, .ref h)] := hl
  obtain ⟨Q, hQ⟩ : ∃ Q, Q = MQ below (va_Qv (fun u => u = va_pl L (va_up f r (.inl (k 0, 24, .inl (fa_fill (koF g) g 24))))) (pB D (va_pl L f) s.heap.size) (va_A (va_pl L f) s.heap.size)) ([.ref h] : List Value).toArray s 0 0 (va_A (va_pl L f) s.heap.size) := ⟨_, rfl⟩
  rw [← hQ]
  refine zr_const hx hb dX6_keepOuter_0 ?_
  refine lv_istore_n (lv' := [(1, .int (zI (0))), (0, .ref h)]) hx hb dX6_keepOuter_1 rfl hl (by decide) rfl (fun ls hl => ?_)
  refine zr_const hx hb dX6_keepOuter_2 ?_
  refine lv_istore_n (lv' := [(2, .int (zI (0))), (1, .int (zI (0))), (0, .ref h)]) hx hb dX6_keepOuter_3 rfl hl (by decide) rfl (fun ls hl => ?_)
  have cut_4 : ∀ (n9 : Nat) (i : Nat) (z2 : Int) (z1 : Int), (i ≤ 24) → (z2 = i) → (0 ≤ z1 ∧ z1 ≤ 24) → (z1 = ((frF g i : Nat) : Int)) → 24 - z2 < (n9 : Int) → ∀ (H : Heap) (locs : List Loc), va_P D vwCl (va_pl L (va_up f r (.inl (k 0, 24, .inl (fa_fill (koF g) g i))))) H → va_D A (va_pl L (va_up f r (.inl (k 0, 24, .inl (fa_fill (koF g) g i))))) → va_S A s.heap H locs → ∀ (ls : Array Slot), lv_has ls 4 [(0, .ref h), (1, .int (zI (z1))), (2, .int (zI (z2)))] → W p l e (headSpec wsX6_keepOuter ({ frames := 2, cells := 0, slots := 0, locals := 44 } : Room)).room s m ([.ref h] : List Value).toArray below meth c H locs 0 0 Q (F0 m 4 ls []) := by
    intro n9
    induction n9 with
    | zero =>
      intro i z2 z1 hi hz2 hb1 hz1 hfu
      exact absurd hfu (by omega)
    | succ n9 ih_4 =>
      intro i z2 z1 hi hz2 hb1 hz1 hfu H locs hP hD hS ls hl
      refine lv_iload_n hx hb dX6_keepOuter_4 rfl (lv_at hl 2 rfl) ?_
      refine lv_aload_n hx hb dX6_keepOuter_5 rfl (lv_at hl 0 rfl) ?_
      refine pl_get (ci := 5) (v := .ref r) (C := RX6) (T := TX6) (N := 1) hx hb hts hi_X6 hown hK hP hh ((va_up_ne _ _ (ne_k hfh hfr (by simp))).trans hfh) rfl 0 (by decide) hw_0 (fun _ h9 => h9) rfl dX6_keepOuter_6 ?_
      refine pl_alen (ty := .int) hx hb hK hP hr 0 (va_up_self _ _ _) rfl (24) rfl dX6_keepOuter_9 ?_
      refine zr_icmp_ge (tgt := 49) hx hb dX6_keepOuter_10 (by decide) (by omega) (by omega) (fun c1 => ?_) (fun c1 => ?_)
      · rw [hQ]
        exact pc_vret hx hb hrt hP (by rw [← hAd]; exact hD) (by rw [← hAd]; exact hS) (by obtain rfl : i = 24 := (by omega); rfl) dX6_keepOuter_49 hlocks
      · refine lv_aload_n hx hb dX6_keepOuter_13 rfl (lv_at hl 0 rfl) ?_
        refine lv_iload_n hx hb dX6_keepOuter_14 rfl (lv_at hl 2 rfl) ?_
        refine vp_callSi (va_Run.run (va_runV (As := [.int (zI (z2))]) (rest := []) ⟨hx, hb, hml, hown, hts⟩ (kX6_highestEnd l D k L (va_up f r (.inl (k 0, 24, .inl (fa_fill (koF g) g i)))) h r ((fa_fill (koF g) g i)) hh ((va_up_ne _ _ (ne_k hfh hfr (by simp))).trans hfh) hr (va_up_self _ _ _) (z2) (by omega)) (cwV 1 hts gX6_keepOuter_X6_highestEnd rfl rfl rfl (by decide +kernel) ⟨Nat.le_of_ble_eq_true rfl, Nat.le_of_ble_eq_true rfl⟩) (rc_preV hC hP (pl_recv hK hP hh ((va_up_ne _ _ (ne_k hfh hfr (by simp))).trans hfh) (ci := 5) (q := (RX6, TX6, 1)) rfl)) rfl rfl hl.1 rfl (lv_room (Nat.le_of_ble_eq_true rfl)) dX6_keepOuter_15 ⟨Nat.zero_le _, Nat.zero_le _⟩)) (fun r2 hr2 => ?_)
        subst hr2
        have hlo9 := hiE_le (rowAt (fa_fill (koF g) g i) z2) 24
        refine lv_istore_n (lv' := [(3, .int (zI (((hiE (rowAt ((fa_fill (koF g) g i)) z2) 24 : Nat) : Int)))), (0, .ref h), (1, .int (zI (z1))), (2, .int (zI (z2)))]) hx hb dX6_keepOuter_18 rfl hl (by decide) rfl (fun ls hl => ?_)
        refine lv_aload_n hx hb dX6_keepOuter_19 rfl (lv_at hl 1 rfl) ?_
        refine pl_get (ci := 5) (v := .ref r) (C := RX6) (T := TX6) (N := 1) hx hb hts hi_X6 hown hK hP hh ((va_up_ne _ _ (ne_k hfh hfr (by simp))).trans hfh) rfl 0 (by decide) hw_0 (fun _ h9 => h9) rfl dX6_keepOuter_20 ?_
        refine lv_iload_n hx hb dX6_keepOuter_23 rfl (lv_at hl 3 rfl) ?_
        refine lv_iload_n hx hb dX6_keepOuter_24 rfl (lv_at hl 0 rfl) ?_
        refine lv_iload_n hx hb dX6_keepOuter_25 rfl (lv_at hl 2 rfl) ?_
        refine zr_icmp_le (tgt := 35) hx hb dX6_keepOuter_26 (by decide) (by omega) (by omega) (fun c3 => ?_) (fun c3 => ?_)
        · refine zr_const hx hb dX6_keepOuter_35 ?_
          refine pl_iast (x := (zI (0))) hx hb hK hP hD hS hr 0 (va_up_self _ _ _) rfl (i) (by omega) (by omega) (by decide) dX6_keepOuter_36 (fun H locs hP hD hS => ?_)
          rw [bx_uu] at hP hD
          have hP : va_P D vwCl (va_pl L (va_up f r (.inl (k 0, 24, .inl (upd ((fa_fill (koF g) g i)) (i) (zI (0))))))) H := hP
          have hD : va_D A (va_pl L (va_up f r (.inl (k 0, 24, .inl (upd ((fa_fill (koF g) g i)) (i) (zI (0))))))) := hD
          refine lv_iload_n hx hb dX6_keepOuter_37 rfl (lv_at hl 2 rfl) ?_
          refine lv_iload_n hx hb dX6_keepOuter_38 rfl (lv_at hl 0 rfl) ?_
          refine va_mmax hx hb (hml.trans hl.1.symm) hown hw_1 hw_2 hw_3 hw_4 (Nat.le_of_ble_eq_true rfl) (Nat.le_of_ble_eq_true rfl) (Nat.zero_le _) (Nat.zero_le _) dX6_keepOuter_39 ?_
          refine zr_top (zI_max (by omega) (by omega)) ?_
          refine lv_istore_n (lv' := [(1, .int (zI (max z1 (((hiE (rowAt ((fa_fill (koF g) g i)) z2) 24 : Nat) : Int))))), (3, .int (zI (((hiE (rowAt ((fa_fill (koF g) g i)) z2) 24 : Nat) : Int)))), (0, .ref h), (2, .int (zI (z2)))]) hx hb dX6_keepOuter_42 rfl hl (by decide) rfl (fun ls hl => ?_)
          refine zr_iinc (k := 3) (lv' := [(2, .int (zI (z2 + 1))), (1, .int (zI (max z1 (((hiE (rowAt ((fa_fill (koF g) g i)) z2) 24 : Nat) : Int))))), (3, .int (zI (((hiE (rowAt ((fa_fill (koF g) g i)) z2) 24 : Nat) : Int)))), (0, .ref h)]) hx hb dX6_keepOuter_43 hl rfl (by decide) rfl (fun ls hl => ?_)
          refine lv_goto (tgt := 4) hx hb dX6_keepOuter_46 (by decide) ?_
          have hg9 : ((upd ((fa_fill (koF g) g i)) (i) (zI (0))) : Nat → Int32) = fa_fill (koF g) g (i + 1) := by first | exact ko_1 (by omega) hz2 hz1 (by assumption) | exact ko_0 (by omega) hz2 hz1 (by assumption)
          rw [hg9] at hP hD
          exact ih_4 (i + 1) (z2 + 1) (max z1 (((hiE (rowAt ((fa_fill (koF g) g i)) z2) 24 : Nat) : Int))) (by omega) (by omega) (by omega) (ko_n (by omega) hz2 hz1) (by omega) _ _ hP hD hS _ (lv_sub hl [3, 1, 0] rfl)
        · refine zr_const hx hb dX6_keepOuter_29 ?_
          refine lv_iload_n hx hb dX6_keepOuter_30 rfl (lv_at hl 0 rfl) ?_
          refine zr_shl1 hx hb (by omega) dX6_keepOuter_31 ?_
          refine lv_goto (tgt := 36) hx hb dX6_keepOuter_32 (by decide) ?_
          refine pl_iast (x := (pw (((hiE (rowAt ((fa_fill (koF g) g i)) z2) 24 : Nat) : Int)).toNat)) hx hb hK hP hD hS hr 0 (va_up_self _ _ _) rfl (i) (by omega) (by omega) (by decide) dX6_keepOuter_36 (fun H locs hP hD hS => ?_)
          rw [bx_uu] at hP hD
          have hP : va_P D vwCl (va_pl L (va_up f r (.inl (k 0, 24, .inl (upd ((fa_fill (koF g) g i)) (i) (pw (((hiE (rowAt ((fa_fill (koF g) g i)) z2) 24 : Nat) : Int)).toNat)))))) H := hP
          have hD : va_D A (va_pl L (va_up f r (.inl (k 0, 24, .inl (upd ((fa_fill (koF g) g i)) (i) (pw (((hiE (rowAt ((fa_fill (koF g) g i)) z2) 24 : Nat) : Int)).toNat)))))) := hD
          refine lv_iload_n hx hb dX6_keepOuter_37 rfl (lv_at hl 2 rfl) ?_
          refine lv_iload_n hx hb dX6_keepOuter_38 rfl (lv_at hl 0 rfl) ?_
          refine va_mmax hx hb (hml.trans hl.1.symm) hown hw_1 hw_2 hw_3 hw_4 (Nat.le_of_ble_eq_true rfl) (Nat.le_of_ble_eq_true rfl) (Nat.zero_le _) (Nat.zero_le _) dX6_keepOuter_39 ?_
          refine zr_top (zI_max (by omega) (by omega)) ?_
          refine lv_istore_n (lv' := [(1, .int (zI (max z1 (((hiE (rowAt ((fa_fill (koF g) g i)) z2) 24 : Nat) : Int))))), (3, .int (zI (((hiE (rowAt ((fa_fill (koF g) g i)) z2) 24 : Nat) : Int)))), (0, .ref h), (2, .int (zI (z2)))]) hx hb dX6_keepOuter_42 rfl hl (by decide) rfl (fun ls hl => ?_)
          refine zr_iinc (k := 3) (lv' := [(2, .int (zI (z2 + 1))), (1, .int (zI (max z1 (((hiE (rowAt ((fa_fill (koF g) g i)) z2) 24 : Nat) : Int))))), (3, .int (zI (((hiE (rowAt ((fa_fill (koF g) g i)) z2) 24 : Nat) : Int)))), (0, .ref h)]) hx hb dX6_keepOuter_43 hl rfl (by decide) rfl (fun ls hl => ?_)
          refine lv_goto (tgt := 4) hx hb dX6_keepOuter_46 (by decide) ?_
          have hg9 : ((upd ((fa_fill (koF g) g i)) (i) (pw (((hiE (rowAt ((fa_fill (koF g) g i)) z2) 24 : Nat) : Int)).toNat)) : Nat → Int32) = fa_fill (koF g) g (i + 1) := by first | exact ko_1 (by omega) hz2 hz1 (by assumption) | exact ko_0 (by omega) hz2 hz1 (by assumption)
          rw [hg9] at hP hD
          exact ih_4 (i + 1) (z2 + 1) (max z1 (((hiE (rowAt ((fa_fill (koF g) g i)) z2) 24 : Nat) : Int))) (by omega) (by omega) (by omega) (ko_n (by omega) hz2 hz1) (by omega) _ _ hP hD hS _ (lv_sub hl [3, 1, 0] rfl)
  rw [← up_id (a := r) hfr] at hP hD
  have hg9 : (g : Nat → Int32) = fa_fill (koF g) g (0) := by exact (fa_fill_0 _ _).symm
  rw [hg9] at hP hD
  exact cut_4 ((24 - (0) : Int).toNat + 1) (0) (0) (0) (by omega) (by omega) (by omega) (rfl) (by omega) _ _ hP hD hS _ (lv_sub hl [2, 1, 0] rfl)

set_option maxHeartbeats 4000000 in
set_option maxRecDepth 100000 in
theorem kX6_countWithin (l : Launch) (D : va_G) (k : Nat → ClassId) (L : List Nat) (f : Nat → va_E) (h r : Nat) (g : Nat → Int32) (hh : h ∈ L) (hfh : f h = .inr (5, [.ref r])) (hr : r ∈ L) (hfr : f r = .inl (k 0, 24, .inl g)) (z1 : Int) (hz1 : 0 ≤ z1 ∧ z1 ≤ 30) (z2 : Int) (hz2 : -30 ≤ z2 ∧ z2 ≤ 24) (z3 : Int) (hz3 : 0 ≤ z3 ∧ z3 ≤ 25) (z4 : Int) (hz4 : -30 ≤ z4 ∧ z4 ≤ 24) : Met l yX6_countWithin wsX6_countWithin ({ frames := 1, cells := 0, slots := 0, locals := 22 } : Room) (va_Pc [.ref h, .int (zI (z1)), .int (zI (z2)), .int (zI (z3)), .int (zI (z4))] (rPre D (tyL k) (va_pl L f))) (vp_Si (fun r9 => r9 = zI (cwN g z1 z2 z3 z4 : Int))) 0 0 (fun _ => False) := by
  refine Met.ofW (cc := cX6_countWithin) (maxL := 8) (ret := (some .int)) (by decide) rfl ?_
  intro p e s m args below meth c s₁ B hml hv
  obtain ⟨rfl, hP, hC⟩ := hv
  have hK := hC.1
  have hNW := hC.2.1
  have hx := B.exec
  have hb := B.bytes
  have hrt := B.returns
  have hts := atoms_spec (ws := wsX6_countWithin) B.pre
  have hown : s.vm.findClass RX6 = some m.cls := findClass_of_methodNamed B.named
  have hlocks := B.notSynchronized
  have hw_0 := hts (.methodLink RX6 38 Lib.Math.max.name) (by decide +kernel)
  have hw_1 := hts (.static Lib.Math.max.name) (by decide +kernel)
  have hw_2 := hts (.initialized "java/lang/Math") (by decide +kernel)
  have hw_3 := hts (.code Lib.Math.max.name Lib.Math.max.code 2 (some .int)) (by decide +kernel)
  have hl := lv_entry ([.ref h, .int (zI (z1)), .int (zI (z2)), .int (zI (z3)), .int (zI (z4))]) (n := 8) (Nat.le_of_ble_eq_true rfl)
  rw [lg_entry_eq]
  generalize (lg_sl ([.ref h, .int (zI (z1)), .int (zI (z2)), .int (zI (z3)), .int (zI (z4))]) ++ List.replicate (8 - (lg_sl ([.ref h, .int (zI (z1)), .int (zI (z2)), .int (zI (z3)), .int (zI (z4))])).length) Slot.unset).toArray = ls at hl ⊢
  have hl : lv_has ls 8 [(0, .ref h), (1, .int (zI (z1))), (2, .int (zI (z2))), (3, .int (zI (z3))), (4, .int (zI (z4)))] := hl
  obtain ⟨Q, hQ⟩ : ∃ Q, Q = MQ below (vp_Si (fun r9 => r9 = zI (cwN g z1 z2 z3 z4 : Int))) ([.ref h, .int (zI (z1)), .int (zI (z2)), .int (zI (z3)), .int (zI (z4))] : List Value).toArray s 0 0 (fun _ => False) := ⟨_, rfl⟩
  rw [← hQ]
  refine zr_const hx hb dX6_countWithin_0 ?_
  refine lv_istore (lv' := [(5, .int (zI (0))), (0, .ref h), (1, .int (zI (z1))), (2, .int (zI (z2))), (3, .int (zI (z3))), (4, .int (zI (z4)))]) hx hb dX6_countWithin_1 hl (by decide) rfl (fun ls hl => ?_)
  refine lv_iload_n hx hb dX6_countWithin_3 rfl (lv_at hl 2 rfl) ?_
  refine lv_istore (lv' := [(6, .int (zI (z1))), (5, .int (zI (0))), (0, .ref h), (1, .int (zI (z1))), (2, .int (zI (z2))), (3, .int (zI (z3))), (4, .int (zI (z4)))]) hx hb dX6_countWithin_4 hl (by decide) rfl (fun ls hl => ?_)
  have cut_6 : ∀ (n9 : Nat) (a : Nat) (z6 : Int) (z5 : Int) (n5 : Nat), (z1 ≤ (a : Int) ∧ ((a : Int) ≤ z2 + 1 ∨ (a : Int) = z1)) → (z6 = a) → (z5 = n5) → (n5 = fb_ct (cwP g z1 z2 z3 z4) (25 * a)) → 25 - z6 + 100 < (n9 : Int) → ∀ (ls : Array Slot), lv_has ls 8 [(0, .ref h), (1, .int (zI (z1))), (2, .int (zI (z2))), (3, .int (zI (z3))), (4, .int (zI (z4))), (5, .int (zI (z5))), (6, .int (zI (z6)))] → W p l e (headSpec wsX6_countWithin ({ frames := 1, cells := 0, slots := 0, locals := 22 } : Room)).room s m ([.ref h, .int (zI (z1)), .int (zI (z2)), .int (zI (z3)), .int (zI (z4))] : List Value).toArray below meth c s.heap [] 0 0 Q (F0 m 6 ls []) := by
    intro n9
    induction n9 with
    | zero =>
      intro a z6 z5 n5 ha hz6 hz5 hn5 hfu
      exact absurd hfu (by omega)
    | succ n9 ih_6 =>
      intro a z6 z5 n5 ha hz6 hz5 hn5 hfu ls hl
      refine lv_iload hx hb dX6_countWithin_6 (lv_at hl 6 rfl) ?_
      refine lv_iload_n hx hb dX6_countWithin_8 rfl (lv_at hl 2 rfl) ?_
      refine zr_icmp_gt (tgt := 55) hx hb dX6_countWithin_9 (by decide) (by omega) (by omega) (fun c1 => ?_) (fun c1 => ?_)
      · refine lv_iload hx hb dX6_countWithin_55 (lv_at hl 5 rfl) ?_
        rw [hQ]
        exact rc_iret hx hb hrt (by rw [hz5, hn5]; exact congrArg (fun n : Nat => zI (n : Int)) (cw_e (by omega) (by omega))) dX6_countWithin_57 hlocks
      · refine lv_iload_n hx hb dX6_countWithin_12 rfl (lv_at hl 3 rfl) ?_
        refine lv_iload hx hb dX6_countWithin_13 (lv_at hl 6 rfl) ?_
        refine zr_const hx hb dX6_countWithin_15 ?_
        refine zr_add hx hb dX6_countWithin_16 ?_
        refine va_mmax hx hb (hml.trans hl.1.symm) hown hw_0 hw_1 hw_2 hw_3 (Nat.le_of_ble_eq_true rfl) (Nat.le_of_ble_eq_true rfl) (Nat.zero_le _) (Nat.zero_le _) dX6_countWithin_17 ?_
        refine zr_top (zI_max (by omega) (by omega)) ?_
        refine lv_istore (lv' := [(7, .int (zI (max z3 (z6 + 1)))), (0, .ref h), (1, .int (zI (z1))), (2, .int (zI (z2))), (3, .int (zI (z3))), (4, .int (zI (z4))), (5, .int (zI (z5))), (6, .int (zI (z6)))]) hx hb dX6_countWithin_20 hl (by decide) rfl (fun ls hl => ?_)
        have cut_22 : ∀ (n9 : Nat) (b : Nat) (z7 : Int) (z5 : Int) (n5 : Nat), ((a : Int) < b ∧ z3 ≤ (b : Int) ∧ b ≤ 25) → (z7 = b) → (z5 = n5) → (n5 = fb_ct (cwP g z1 z2 z3 z4) (25 * a + b)) → 25 - z7 < (n9 : Int) → ∀ (ls : Array Slot), lv_has ls 8 [(0, .ref h), (1, .int (zI (z1))), (2, .int (zI (z2))), (3, .int (zI (z3))), (4, .int (zI (z4))), (5, .int (zI (z5))), (6, .int (zI (z6))), (7, .int (zI (z7)))] → W p l e (headSpec wsX6_countWithin ({ frames := 1, cells := 0, slots := 0, locals := 22 } : Room)).room s m ([.ref h, .int (zI (z1)), .int (zI (z2)), .int (zI (z3)), .int (zI (z4))] : List Value).toArray below meth c s.heap [] 0 0 Q (F0 m 22 ls []) := by
          intro n9
          induction n9 with
          | zero =>
            intro b z7 z5 n5 hb7 hz7 hz5 hn5 hfu
            exact absurd hfu (by omega)
          | succ n9 ih_22 =>
            intro b z7 z5 n5 hb7 hz7 hz5 hn5 hfu ls hl
            refine lv_iload hx hb dX6_countWithin_22 (lv_at hl 7 rfl) ?_
            refine lv_iload hx hb dX6_countWithin_24 (lv_at hl 4 rfl) ?_
            refine zr_icmp_gt (tgt := 49) hx hb dX6_countWithin_26 (by decide) (by omega) (by omega) (fun c2 => ?_) (fun c2 => ?_)
            · refine zr_iinc (k := 6) (lv' := [(6, .int (zI (z6 + 1))), (0, .ref h), (1, .int (zI (z1))), (2, .int (zI (z2))), (3, .int (zI (z3))), (4, .int (zI (z4))), (5, .int (zI (z5))), (7, .int (zI (z7)))]) hx hb dX6_countWithin_49 hl rfl (by decide) rfl (fun ls hl => ?_)
              refine lv_goto (tgt := 6) hx hb dX6_countWithin_52 (by decide) ?_
              exact ih_6 (a + 1) (z6 + 1) (z5) (n5) (by omega) (by omega) (by omega) (cw_i2 (by omega) hn5) (by omega) _ (lv_sub hl [1, 2, 3, 4, 5, 6, 0] rfl)
            · refine lv_aload_n hx hb dX6_countWithin_29 rfl (lv_at hl 0 rfl) ?_
              refine lv_iload hx hb dX6_countWithin_30 (lv_at hl 6 rfl) ?_
              refine lv_iload hx hb dX6_countWithin_32 (lv_at hl 7 rfl) ?_
              refine vp_callSi (va_Run.run (va_runV (As := [.int (zI (z6)), .int (zI (z7))]) (rest := []) ⟨hx, hb, hml, hown, hts⟩ (kX6_contains l D k L f h r g hh hfh hr hfr (z6) (by omega) (z7) (by omega)) (cwV 2 hts gX6_countWithin_X6_contains rfl rfl rfl (by decide +kernel) ⟨Nat.le_of_ble_eq_true rfl, Nat.le_of_ble_eq_true rfl⟩) (rc_preV hC hP (pl_recv hK hP hh hfh (ci := 5) (q := (RX6, TX6, 1)) rfl)) rfl rfl hl.1 rfl (lv_room (Nat.le_of_ble_eq_true rfl)) dX6_countWithin_34 ⟨Nat.zero_le _, Nat.zero_le _⟩)) (fun r3 hr3 => ?_)
              subst hr3
              refine zr_ifb_eq (tgt := 43) hx hb dX6_countWithin_37 (by decide) (fun c4 => ?_) (fun c4 => ?_)
              · refine zr_iinc (k := 7) (lv' := [(7, .int (zI (z7 + 1))), (0, .ref h), (1, .int (zI (z1))), (2, .int (zI (z2))), (3, .int (zI (z3))), (4, .int (zI (z4))), (5, .int (zI (z5))), (6, .int (zI (z6)))]) hx hb dX6_countWithin_43 hl rfl (by decide) rfl (fun ls hl => ?_)
                refine lv_goto (tgt := 22) hx hb dX6_countWithin_46 (by decide) ?_
                exact ih_22 (b + 1) (z7 + 1) (z5) (n5) (by omega) (by omega) (by omega) (by first | exact cwP_1 (by omega) hz6 hz7 (by omega) (by assumption) hn5 | exact cwP_0 (by omega) hz6 hz7 (by omega) (by assumption) hn5) (by omega) _ (lv_sub hl [1, 2, 3, 4, 5, 6, 7, 0] rfl)
              · refine zr_iinc (k := 5) (lv' := [(5, .int (zI (z5 + 1))), (0, .ref h), (1, .int (zI (z1))), (2, .int (zI (z2))), (3, .int (zI (z3))), (4, .int (zI (z4))), (6, .int (zI (z6))), (7, .int (zI (z7)))]) hx hb dX6_countWithin_40 hl rfl (by decide) rfl (fun ls hl => ?_)
                refine zr_iinc (k := 7) (lv' := [(7, .int (zI (z7 + 1))), (5, .int (zI (z5 + 1))), (0, .ref h), (1, .int (zI (z1))), (2, .int (zI (z2))), (3, .int (zI (z3))), (4, .int (zI (z4))), (6, .int (zI (z6)))]) hx hb dX6_countWithin_43 hl rfl (by decide) rfl (fun ls hl => ?_)
                refine lv_goto (tgt := 22) hx hb dX6_countWithin_46 (by decide) ?_
                exact ih_22 (b + 1) (z7 + 1) (z5 + 1) (n5 + 1) (by omega) (by omega) (by omega) (by first | exact cwP_1 (by omega) hz6 hz7 (by omega) (by assumption) hn5 | exact cwP_0 (by omega) hz6 hz7 (by omega) (by assumption) hn5) (by omega) _ (lv_sub hl [2, 3, 4, 5, 6, 1, 7, 0] rfl)
        exact cut_22 ((25 - (max z3 (z6 + 1)) : Int).toNat + 1) ((max z3 (z6 + 1)).toNat) (max z3 (z6 + 1)) (z5) (n5) (by omega) (by omega) (by omega) (cw_i1 (by omega) (by omega) hn5) (by omega) _ (lv_sub hl [1, 2, 3, 4, 5, 6, 7, 0] rfl)
  exact cut_6 ((25 - (z1) + 100 : Int).toNat + 1) (z1.toNat) (z1) (0) (0) (by omega) (by omega) (by omega) (cw_i0 (by omega)) (by omega) _ (lv_sub hl [2, 3, 4, 5, 6, 1, 0] rfl)

set_option maxHeartbeats 4000000 in
set_option maxRecDepth 100000 in
theorem kX6_countLyingIn (l : Launch) (D : va_G) (k : Nat → ClassId) (L : List Nat) (f : Nat → va_E) (h r : Nat) (g : Nat → Int32) (hh : h ∈ L) (hfh : f h = .inr (5, [.ref r])) (hr : r ∈ L) (hfr : f r = .inl (k 0, 24, .inl g)) (z w : Int) (hz : 0 ≤ z ∧ z < w) (hw : w ≤ 24) : Met l yX6_countLyingIn wsX6_countLyingIn ({ frames := 2, cells := 0, slots := 0, locals := 49 } : Room) (va_Pc [.ref h, .int (zI (z)), .int (zI (w))] (rPre D (tyL k) (va_pl L f))) (vp_Si (fun r9 => r9 = zI (cwN g z (w - 1) (z + 1) w : Int))) 0 0 (fun _ => False) := by
  refine Met.ofW (cc := cX6_countLyingIn) (maxL := 3) (ret := (some .int)) (by decide) rfl ?_
  intro p e s m args below meth c s₁ B hml hv
  obtain ⟨rfl, hP, hC⟩ := hv
  have hK := hC.1
  have hNW := hC.2.1
  have hx := B.exec
  have hb := B.bytes
  have hrt := B.returns
  have hts := atoms_spec (ws := wsX6_countLyingIn) B.pre
  have hown : s.vm.findClass RX6 = some m.cls := findClass_of_methodNamed B.named
  have hlocks := B.notSynchronized
  have hl := lv_entry ([.ref h, .int (zI (z)), .int (zI (w))]) (n := 3) (Nat.le_of_ble_eq_true rfl)
  rw [lg_entry_eq]
  generalize (lg_sl ([.ref h, .int (zI (z)), .int (zI (w))]) ++ List.replicate (3 - (lg_sl ([.ref h, .int (zI (z)), .int (zI (w))])).length) Slot.unset).toArray = ls at hl ⊢
  have hl : lv_has ls 3 [(0, .ref h), (1, .int (zI (z))), (2, .int (zI (w)))] := hl
  obtain ⟨Q, hQ⟩ : ∃ Q, Q = MQ below (vp_Si (fun r9 => r9 = zI (cwN g z (w - 1) (z + 1) w : Int))) ([.ref h, .int (zI (z)), .int (zI (w))] : List Value).toArray s 0 0 (fun _ => False) := ⟨_, rfl⟩
  rw [← hQ]
  refine lv_aload_n hx hb dX6_countLyingIn_0 rfl (lv_at hl 0 rfl) ?_
  refine lv_iload_n hx hb dX6_countLyingIn_1 rfl (lv_at hl 1 rfl) ?_
  refine lv_iload_n hx hb dX6_countLyingIn_2 rfl (lv_at hl 2 rfl) ?_
  refine zr_const hx hb dX6_countLyingIn_3 ?_
  refine zr_sub hx hb dX6_countLyingIn_4 ?_
  refine lv_iload_n hx hb dX6_countLyingIn_5 rfl (lv_at hl 1 rfl) ?_
  refine zr_const hx hb dX6_countLyingIn_6 ?_
  refine zr_add hx hb dX6_countLyingIn_7 ?_
  refine lv_iload_n hx hb dX6_countLyingIn_8 rfl (lv_at hl 2 rfl) ?_
  refine vp_callSi (va_Run.run (va_runV (As := [.int (zI (z)), .int (zI (w - 1)), .int (zI (z + 1)), .int (zI (w))]) (rest := []) ⟨hx, hb, hml, hown, hts⟩ (kX6_countWithin l D k L f h r g hh hfh hr hfr (z) (by omega) (w - 1) (by omega) (z + 1) (by omega) (w) (by omega)) (cwV 4 hts gX6_countLyingIn_X6_countWithin rfl rfl rfl (by decide +kernel) ⟨Nat.le_of_ble_eq_true rfl, Nat.le_of_ble_eq_true rfl⟩) (rc_preV hC hP (pl_recv hK hP hh hfh (ci := 5) (q := (RX6, TX6, 1)) rfl)) rfl rfl hl.1 rfl (lv_room (Nat.le_of_ble_eq_true rfl)) dX6_countLyingIn_9 ⟨Nat.zero_le _, Nat.zero_le _⟩)) (fun r1 hr1 => ?_)
  subst hr1
  have hcwr1 := cwN_le g z (w - 1) (z + 1) w
  rw [hQ]
  exact rc_iret hx hb hrt (rfl) dX6_countLyingIn_12 hlocks

set_option maxHeartbeats 4000000 in
set_option maxRecDepth 100000 in
theorem kX6_countLyingRound (l : Launch) (D : va_G) (k : Nat → ClassId) (L : List Nat) (f : Nat → va_E) (h r : Nat) (g : Nat → Int32) (hh : h ∈ L) (hfh : f h = .inr (5, [.ref r])) (hr : r ∈ L) (hfr : f r = .inl (k 0, 24, .inl g)) (z w : Int) (hz : 0 ≤ z ∧ z < w) (hw : w ≤ 24) : Met l yX6_countLyingRound wsX6_countLyingRound ({ frames := 2, cells := 0, slots := 0, locals := 49 } : Room) (va_Pc [.ref h, .int (zI (z)), .int (zI (w))] (rPre D (tyL k) (va_pl L f))) (vp_Si (fun r9 => r9 = zI (cwN g 0 z w 24 : Int))) 0 0 (fun _ => False) := by
  refine Met.ofW (cc := cX6_countLyingRound) (maxL := 3) (ret := (some .int)) (by decide) rfl ?_
  intro p e s m args below meth c s₁ B hml hv
  obtain ⟨rfl, hP, hC⟩ := hv
  have hK := hC.1
  have hNW := hC.2.1
  have hx := B.exec
  have hb := B.bytes
  have hrt := B.returns
  have hts := atoms_spec (ws := wsX6_countLyingRound) B.pre
  have hown : s.vm.findClass RX6 = some m.cls := findClass_of_methodNamed B.named
  have hlocks := B.notSynchronized
  have hl := lv_entry ([.ref h, .int (zI (z)), .int (zI (w))]) (n := 3) (Nat.le_of_ble_eq_true rfl)
  rw [lg_entry_eq]
  generalize (lg_sl ([.ref h, .int (zI (z)), .int (zI (w))]) ++ List.replicate (3 - (lg_sl ([.ref h, .int (zI (z)), .int (zI (w))])).length) Slot.unset).toArray = ls at hl ⊢
  have hl : lv_has ls 3 [(0, .ref h), (1, .int (zI (z))), (2, .int (zI (w)))] := hl
  obtain ⟨Q, hQ⟩ : ∃ Q, Q = MQ below (vp_Si (fun r9 => r9 = zI (cwN g 0 z w 24 : Int))) ([.ref h, .int (zI (z)), .int (zI (w))] : List Value).toArray s 0 0 (fun _ => False) := ⟨_, rfl⟩
  rw [← hQ]
  refine lv_aload_n hx hb dX6_countLyingRound_0 rfl (lv_at hl 0 rfl) ?_
  refine zr_const hx hb dX6_countLyingRound_1 ?_
  refine lv_iload_n hx hb dX6_countLyingRound_2 rfl (lv_at hl 1 rfl) ?_
  refine lv_iload_n hx hb dX6_countLyingRound_3 rfl (lv_at hl 2 rfl) ?_
  refine zr_bipush hx hb dX6_countLyingRound_4 (by decide) ?_
  refine vp_callSi (va_Run.run (va_runV (As := [.int (zI (0)), .int (zI (z)), .int (zI (w)), .int (zI (24))]) (rest := []) ⟨hx, hb, hml, hown, hts⟩ (kX6_countWithin l D k L f h r g hh hfh hr hfr (0) (by omega) (z) (by omega) (w) (by omega) (24) (by omega)) (cwV 4 hts gX6_countLyingRound_X6_countWithin rfl rfl rfl (by decide +kernel) ⟨Nat.le_of_ble_eq_true rfl, Nat.le_of_ble_eq_true rfl⟩) (rc_preV hC hP (pl_recv hK hP hh hfh (ci := 5) (q := (RX6, TX6, 1)) rfl)) rfl rfl hl.1 rfl (lv_room (Nat.le_of_ble_eq_true rfl)) dX6_countLyingRound_6 ⟨Nat.zero_le _, Nat.zero_le _⟩)) (fun r1 hr1 => ?_)
  subst hr1
  have hcwr1 := cwN_le g 0 z w 24
  rw [hQ]
  exact rc_iret hx hb hrt (rfl) dX6_countLyingRound_9 hlocks

set_option maxHeartbeats 4000000 in
set_option maxRecDepth 100000 in
theorem kX6_isJoined (l : Launch) (D : va_G) (k : Nat → ClassId) (L : List Nat) (f : Nat → va_E) (h1 r1 : Nat) (g1 : Nat → Int32) (hh1 : h1 ∈ L) (hfh1 : f h1 = .inr (5, [.ref r1])) (hr1 : r1 ∈ L) (hfr1 : f r1 = .inl (k 0, 24, .inl g1)) (h2 r2 : Nat) (g2 : Nat → Int32) (hh2 : h2 ∈ L) (hfh2 : f h2 = .inr (5, [.ref r2])) (hr2 : r2 ∈ L) (hfr2 : f r2 = .inl (k 0, 24, .inl g2)) (v z w : Int) (hv9 : 0 ≤ v ∧ v ≤ 24) (hz : 0 ≤ z ∧ z < w) (hw : w ≤ 24) : Met l yX6_isJoined wsX6_isJoined ({ frames := 2, cells := 0, slots := 0, locals := 49 } : Room) (va_Pc [.ref h1, .ref h2, .int (zI (v)), .int (zI (z)), .int (zI (w))] (rPre D (tyL k) (va_pl L f))) (vp_Si (fun r9 => r9 = bI (ijB g1 g2 v z w))) 0 0 (fun _ => False) := by
  refine Met.ofW (cc := cX6_isJoined) (maxL := 7) (ret := (some .boolean)) (by decide) rfl ?_
  intro p e s m args below meth c s₁ B hml hv
  obtain ⟨rfl, hP, hC⟩ := hv
  have hK := hC.1
  have hNW := hC.2.1
  have hx := B.exec
  have hb := B.bytes
  have hrt := B.returns
  have hts := atoms_spec (ws := wsX6_isJoined) B.pre
  have hown : s.vm.findClass RX6 = some m.cls := findClass_of_methodNamed B.named
  have hlocks := B.notSynchronized
  have hw_0 := hts (.methodLink RX6 59 Lib.Math.min.name) (by decide +kernel)
  have hw_1 := hts (.static Lib.Math.min.name) (by decide +kernel)
  have hw_2 := hts (.initialized "java/lang/Math") (by decide +kernel)
  have hw_3 := hts (.code Lib.Math.min.name Lib.Math.min.code 2 (some .int)) (by decide +kernel)
  have hl := lv_entry ([.ref h1, .ref h2, .int (zI (v)), .int (zI (z)), .int (zI (w))]) (n := 7) (Nat.le_of_ble_eq_true rfl)
  rw [lg_entry_eq]
  generalize (lg_sl ([.ref h1, .ref h2, .int (zI (v)), .int (zI (z)), .int (zI (w))]) ++ List.replicate (7 - (lg_sl ([.ref h1, .ref h2, .int (zI (v)), .int (zI (z)), .int (zI (w))])).length) Slot.unset).toArray = ls at hl ⊢
  have hl : lv_has ls 7 [(0, .ref h1), (1, .ref h2), (2, .int (zI (v))), (3, .int (zI (z))), (4, .int (zI (w)))] := hl
  obtain ⟨Q, hQ⟩ : ∃ Q, Q = MQ below (vp_Si (fun r9 => r9 = bI (ijB g1 g2 v z w))) ([.ref h1, .ref h2, .int (zI (v)), .int (zI (z)), .int (zI (w))] : List Value).toArray s 0 0 (fun _ => False) := ⟨_, rfl⟩
  rw [← hQ]
  refine lv_iload_n hx hb dX6_isJoined_0 rfl (lv_at hl 3 rfl) ?_
  refine zr_const hx hb dX6_isJoined_1 ?_
  refine zr_add hx hb dX6_isJoined_2 ?_
  refine lv_istore (lv' := [(5, .int (zI (z + 1))), (0, .ref h1), (1, .ref h2), (2, .int (zI (v))), (3, .int (zI (z))), (4, .int (zI (w)))]) hx hb dX6_isJoined_3 hl (by decide) rfl (fun ls hl => ?_)
  have cut_5 : ∀ (n9 : Nat) (i : Nat) (z5 : Int), (z < (i : Int) ∧ (i : Int) ≤ w) → (z5 = i) → (∀ j : Nat, j < i → ijP g1 g2 v z w j = false) → w - z5 < (n9 : Int) → ∀ (ls : Array Slot), lv_has ls 7 [(0, .ref h1), (1, .ref h2), (2, .int (zI (v))), (3, .int (zI (z))), (4, .int (zI (w))), (5, .int (zI (z5)))] → W p l e (headSpec wsX6_isJoined ({ frames := 2, cells := 0, slots := 0, locals := 49 } : Room)).room s m ([.ref h1, .ref h2, .int (zI (v)), .int (zI (z)), .int (zI (w))] : List Value).toArray below meth c s.heap [] 0 0 Q (F0 m 5 ls []) := by
    intro n9
    induction n9 with
    | zero =>
      intro i z5 hi hz5 hno hfu
      exact absurd hfu (by omega)
    | succ n9 ih_5 =>
      intro i z5 hi hz5 hno hfu ls hl
      refine lv_iload hx hb dX6_isJoined_5 (lv_at hl 5 rfl) ?_
      refine lv_iload hx hb dX6_isJoined_7 (lv_at hl 4 rfl) ?_
      refine zr_icmp_ge (tgt := 58) hx hb dX6_isJoined_9 (by decide) (by omega) (by omega) (fun c1 => ?_) (fun c1 => ?_)
      · refine zr_const hx hb dX6_isJoined_58 ?_
        rw [hQ]
        refine zr_top (y := bI (ijB g1 g2 v z w)) (bI_f (ij_e hno (by omega))) ?_
        exact rc_zret hx hb hrt (rfl) dX6_isJoined_59 hlocks
      · refine lv_iload hx hb dX6_isJoined_12 (lv_at hl 5 rfl) ?_
        refine lv_iload_n hx hb dX6_isJoined_14 rfl (lv_at hl 2 rfl) ?_
        refine zr_add hx hb dX6_isJoined_15 ?_
        refine lv_iload hx hb dX6_isJoined_16 (lv_at hl 4 rfl) ?_
        refine zr_const hx hb dX6_isJoined_18 ?_
        refine zr_sub hx hb dX6_isJoined_19 ?_
        refine va_mmin hx hb (hml.trans hl.1.symm) hown hw_0 hw_1 hw_2 hw_3 (Nat.le_of_ble_eq_true rfl) (Nat.le_of_ble_eq_true rfl) (Nat.zero_le _) (Nat.zero_le _) dX6_isJoined_20 ?_
        refine zr_top (zI_min (by omega) (by omega)) ?_
        refine lv_istore (lv' := [(6, .int (zI (min (z5 + v) (w - 1)))), (0, .ref h1), (1, .ref h2), (2, .int (zI (v))), (3, .int (zI (z))), (4, .int (zI (w))), (5, .int (zI (z5)))]) hx hb dX6_isJoined_23 hl (by decide) rfl (fun ls hl => ?_)
        refine lv_aload_n hx hb dX6_isJoined_25 rfl (lv_at hl 1 rfl) ?_
        refine lv_iload_n hx hb dX6_isJoined_26 rfl (lv_at hl 4 rfl) ?_
        refine lv_iload hx hb dX6_isJoined_27 (lv_at hl 6 rfl) ?_
        refine vp_callSi (va_Run.run (va_runV (As := [.int (zI (z)), .int (zI (z5))]) (rest := []) ⟨hx, hb, hml, hown, hts⟩ (kX6_contains l D k L f h1 r1 g1 hh1 hfh1 hr1 hfr1 (z) (by omega) (z5) (by omega)) (cwV 2 hts gX6_isJoined_X6_contains rfl rfl rfl (by decide +kernel) ⟨Nat.le_of_ble_eq_true rfl, Nat.le_of_ble_eq_true rfl⟩) (rc_preV hC hP (pl_recv hK hP hh1 hfh1 (ci := 5) (q := (RX6, TX6, 1)) rfl)) rfl rfl hl.1 rfl (lv_room (Nat.le_of_ble_eq_true rfl)) dX6_isJoined_29 ⟨Nat.zero_le _, Nat.zero_le _⟩)) (fun r2 hr2 => ?_)
        subst hr2
        refine zr_ifb_eq (tgt := 52) hx hb dX6_isJoined_32 (by decide) (fun c3 => ?_) (fun c3 => ?_)
        · refine zr_iinc (k := 6) (lv' := [(5, .int (zI (z5 + 1))), (6, .int (zI (min (z5 + v) (w - 1)))), (0, .ref h1), (1, .ref h2), (2, .int (zI (v))), (3, .int (zI (z))), (4, .int (zI (w)))]) hx hb dX6_isJoined_52 hl rfl (by decide) rfl (fun ls hl => ?_)
          refine lv_goto (tgt := 5) hx hb dX6_isJoined_55 (by decide) ?_
          exact ih_5 (i + 1) (z5 + 1) (by omega) (by omega) (by first | exact ij_s1 hno hz5 (by assumption) | exact ij_s2 hno hz5 (by omega)) (by omega) _ (lv_sub hl [2, 3, 4, 5, 6, 0] rfl)
        · refine lv_aload_n hx hb dX6_isJoined_35 rfl (lv_at hl 2 rfl) ?_
          refine lv_iload hx hb dX6_isJoined_36 (lv_at hl 6 rfl) ?_
          refine lv_iload hx hb dX6_isJoined_38 (lv_at hl 0 rfl) ?_
          refine lv_iload hx hb dX6_isJoined_40 (lv_at hl 5 rfl) ?_
          refine lv_iload hx hb dX6_isJoined_42 (lv_at hl 5 rfl) ?_
          refine vp_callSi (va_Run.run (va_runV (As := [.int (zI (z5)), .int (zI (min (z5 + v) (w - 1))), .int (zI (w)), .int (zI (w))]) (rest := []) ⟨hx, hb, hml, hown, hts⟩ (kX6_countWithin l D k L f h2 r2 g2 hh2 hfh2 hr2 hfr2 (z5) (by omega) (min (z5 + v) (w - 1)) (by omega) (w) (by omega) (w) (by omega)) (cwV 4 hts gX6_isJoined_X6_countWithin rfl rfl rfl (by decide +kernel) ⟨Nat.le_of_ble_eq_true rfl, Nat.le_of_ble_eq_true rfl⟩) (rc_preV hC hP (pl_recv hK hP hh2 hfh2 (ci := 5) (q := (RX6, TX6, 1)) rfl)) rfl rfl hl.1 rfl (lv_room (Nat.le_of_ble_eq_true rfl)) dX6_isJoined_44 ⟨Nat.zero_le _, Nat.zero_le _⟩)) (fun r4 hr4 => ?_)
          subst hr4
          have hcwr4 := cwN_le g2 z5 (min (z5 + v) (w - 1)) w w
          refine zr_if_le (tgt := 52) hx hb dX6_isJoined_47 (by decide) (by omega) (fun c5 => ?_) (fun c5 => ?_)
          · refine zr_iinc (k := 6) (lv' := [(5, .int (zI (z5 + 1))), (6, .int (zI (min (z5 + v) (w - 1)))), (0, .ref h1), (1, .ref h2), (2, .int (zI (v))), (3, .int (zI (z))), (4, .int (zI (w)))]) hx hb dX6_isJoined_52 hl rfl (by decide) rfl (fun ls hl => ?_)
            refine lv_goto (tgt := 5) hx hb dX6_isJoined_55 (by decide) ?_
            exact ih_5 (i + 1) (z5 + 1) (by omega) (by omega) (by first | exact ij_s1 hno hz5 (by assumption) | exact ij_s2 hno hz5 (by omega)) (by omega) _ (lv_sub hl [2, 3, 4, 5, 6, 0] rfl)
          · refine zr_const hx hb dX6_isJoined_50 ?_
            rw [hQ]
            refine zr_top (y := bI (ijB g1 g2 v z w)) (bI_t (ij_t (i := i) (by omega) (by omega) hz5 (by assumption) (by omega))) ?_
            exact rc_zret hx hb hrt (rfl) dX6_isJoined_51 hlocks
  exact cut_5 ((w - (z + 1) : Int).toNat + 1) ((z + 1).toNat) (z + 1) (by omega) (by omega) (ij_0 (by omega)) (by omega) _ (lv_sub hl [1, 2, 3, 4, 5, 0] rfl)
