set_option maxHeartbeats 4000000 in
set_option maxRecDepth 100000 in
theorem kX5_gatherRowByRow (l : Launch) (D : va_G) (k : Nat → ClassId) (L : List Nat) (f : Nat → va_E) (h : Nat) (d : Int) (nd : Int32) (as : Nat) (op : Int) (hop : 0 ≤ op ∧ op ≤ 8) (o1 : Nat) (d1 : Int) (n1 : Int32) (gs1 as1 : Nat) (hd1 : -100 ≤ d1 ∧ d1 ≤ 100) (ho1 : o1 ∈ L) (hx1 : exAt f o1 (zI d1) n1 gs1 as1) (o2 : Nat) (d2 : Int) (n2 : Int32) (gs2 as2 : Nat) (hd2 : -100 ≤ d2 ∧ d2 ≤ 100) (ho2 : o2 ∈ L) (hx2 : exAt f o2 (zI d2) n2 gs2 as2) (gs r : Nat) (g : Nat → Int32) (hgs : gs ∈ L) (hfgs : f gs = .inr (5, [.ref r])) (hr : r ∈ L) (hfr : f r = .inl (k 0, 24, .inl g)) (r1 : Nat) (g1 : Nat → Int32) (hgs1 : gs1 ∈ L) (hfgs1 : f gs1 = .inr (5, [.ref r1])) (hr1 : r1 ∈ L) (hfr1 : f r1 = .inl (k 0, 24, .inl g1)) (hrr1 : r1 ≠ r) (r2 : Nat) (g2 : Nat → Int32) (hgs2 : gs2 ∈ L) (hfgs2 : f gs2 = .inr (5, [.ref r2])) (hr2 : r2 ∈ L) (hfr2 : f r2 = .inl (k 0, 24, .inl g2)) (hrr2 : r2 ≠ r) (hh : h ∈ L) (hfh : f h = .inr (4, [.int (zI d), .int nd, .ref gs, .ref as, .int (zI op), .ref o1, .ref o2])) (n0 sz : Nat) : Met l yX5_gatherRowByRow wsX5_gatherRowByRow ({ frames := 1, cells := 0, slots := 0, locals := 22 } : Room) (va_Pc [.ref h] (pPre D (tyL k) n0 (va_pl L f) sz)) (va_Qv (fun u => u = va_pl L (va_up f r (.inl (k 0, 24, .inl (fa_fill (grF op g1 g2) g 24))))) (pB D (va_pl L f) sz) (va_A (va_pl L f) sz)) 0 0 (va_A (va_pl L f) sz) := by
  refine Met.ofW (cc := cX5_gatherRowByRow) (maxL := 4) (ret := none) (by decide) rfl ?_
  intro p e s m args below meth c s₁ B hml hv
  obtain ⟨rfl, hsz, hn9, hP, hC, hD0⟩ := hv
  have hK := hC.1
  have hNW := hC.2.1
  have hx := B.exec
  have hb := B.bytes
  have hrt := B.returns
  have hts := atoms_spec (ws := wsX5_gatherRowByRow) B.pre
  have hown : s.vm.findClass RX5 = some m.cls := findClass_of_methodNamed B.named
  have hlocks := B.notSynchronized
  subst hsz
  obtain ⟨A, hAd⟩ : ∃ A, A = va_A (va_pl L f) s.heap.size := ⟨_, rfl⟩
  have hD := hD0.self (sz := s.heap.size)
  rw [← hAd] at hD
  have hA : ∀ q : Nat, s.heap.size ≤ q → A q := fun q h => by rw [hAd]; exact Or.inr h
  have hAn : ∀ q : Nat, A q → n0 ≤ q := fun q h => by
    rw [hAd] at h
    rcases h with ⟨k9, e9, hk9⟩ | h
    · exact hD0.2 k9 _ hk9
    · exact Nat.le_trans hn9 h
  have hS : va_S A s.heap s.heap [] := va_S.rf
  have hi_X5 : ∀ w ∈ u_ws RX5 TX5 7, w ∈ wsX5_gatherRowByRow := by decide +kernel
  have hi_X1 : ∀ w ∈ u_ws RX1 TX1 5, w ∈ wsX5_gatherRowByRow := by decide +kernel
  have hi_X2 : ∀ w ∈ u_ws RX2 TX2 5, w ∈ wsX5_gatherRowByRow := by decide +kernel
  have hi_X3 : ∀ w ∈ u_ws RX3 TX3 7, w ∈ wsX5_gatherRowByRow := by decide +kernel
  have hi_X4 : ∀ w ∈ u_ws RX4 TX4 6, w ∈ wsX5_gatherRowByRow := by decide +kernel
  have hi_X7 : ∀ w ∈ u_ws RX7 TX7 7, w ∈ wsX5_gatherRowByRow := by decide +kernel
  have hw_0 := hts (.fieldLink RX5 22 "Regionry$PairExpression" "one" "LRegionry$Expression;") (by decide +kernel)
  have hw_1 := hts (.fieldLink RX5 46 "Regionry$Expression" "gathered" "LRegionry$RegionSet;") (by decide +kernel)
  have hw_2 := hts (.fieldLink RX5 26 "Regionry$PairExpression" "other" "LRegionry$Expression;") (by decide +kernel)
  have hw_3 := hts (.fieldLink RX5 17 "Regionry$PairExpression" "operation" "I") (by decide +kernel)
  have hw_4 := hts (.fieldLink RX5 56 "Regionry$PairExpression" "gathered" "LRegionry$RegionSet;") (by decide +kernel)
  have hw_5 := hts (.sameField "Regionry$PairExpression" "Regionry$Expression" "gathered" "LRegionry$RegionSet;") (by decide +kernel)
  have hl := lv_entry ([.ref h]) (n := 4) (Nat.le_of_ble_eq_true rfl)
  rw [lg_entry_eq]
  generalize (lg_sl ([.ref h]) ++ List.replicate (4 - (lg_sl ([.ref h])).length) Slot.unset).toArray = ls at hl ⊢
  have hl : lv_has ls 4 [(0, .ref h)] := hl
  obtain ⟨Q, hQ⟩ : ∃ Q, Q = MQ below (va_Qv (fun u => u = va_pl L (va_up f r (.inl (k 0, 24, .inl (fa_fill (grF op g1 g2) g 24))))) (pB D (va_pl L f) s.heap.size) (va_A (va_pl L f) s.heap.size)) ([.ref h] : List Value).toArray s 0 0 (va_A (va_pl L f) s.heap.size) := ⟨_, rfl⟩
  rw [← hQ]
  refine zr_const hx hb dX5_gatherRowByRow_0 ?_
  refine lv_istore_n (lv' := [(1, .int (zI (0))), (0, .ref h)]) hx hb dX5_gatherRowByRow_1 rfl hl (by decide) rfl (fun ls hl => ?_)
  have cut_2 : ∀ (n9 : Nat) (i : Nat) (z2 : Int), (i ≤ 24) → (z2 = i) → 24 - z2 < (n9 : Int) → ∀ (H : Heap) (locs : List Loc), va_P D vwCl (va_pl L (va_up f r (.inl (k 0, 24, .inl (fa_fill (grF op g1 g2) g i))))) H → va_D A (va_pl L (va_up f r (.inl (k 0, 24, .inl (fa_fill (grF op g1 g2) g i))))) → va_S A s.heap H locs → ∀ (ls : Array Slot), lv_has ls 4 [(0, .ref h), (1, .int (zI (z2)))] → W p l e (headSpec wsX5_gatherRowByRow ({ frames := 1, cells := 0, slots := 0, locals := 22 } : Room)).room s m ([.ref h] : List Value).toArray below meth c H locs 0 0 Q (F0 m 2 ls []) := by
    intro n9
    induction n9 with
    | zero =>
      intro i z2 hi hz2 hfu
      exact absurd hfu (by omega)
    | succ n9 ih_2 =>
      intro i z2 hi hz2 hfu H locs hP hD hS ls hl
      refine lv_iload_n hx hb dX5_gatherRowByRow_2 rfl (lv_at hl 1 rfl) ?_
      refine zr_bipush hx hb dX5_gatherRowByRow_3 (by decide) ?_
      refine zr_icmp_ge (tgt := 94) hx hb dX5_gatherRowByRow_5 (by decide) (by omega) (by omega) (fun c1 => ?_) (fun c1 => ?_)
      · rw [hQ]
        exact pc_vret hx hb hrt hP (by rw [← hAd]; exact hD) (by rw [← hAd]; exact hS) (by obtain rfl : i = 24 := (by omega); rfl) dX5_gatherRowByRow_94 hlocks
      · refine lv_aload_n hx hb dX5_gatherRowByRow_8 rfl (lv_at hl 0 rfl) ?_
        refine pl_get (ci := 4) (v := .ref o1) (C := RX5) (T := TX5) (N := 7) hx hb hts hi_X5 hown hK hP hh ((va_up_ne _ _ (ne_k hfh hfr (by simp))).trans hfh) rfl 5 (by decide) hw_0 (fun _ h9 => h9) rfl dX5_gatherRowByRow_9 ?_
        refine pl_getE (v := .ref gs1) hx hb hts hi_X1 hi_X2 hi_X3 hi_X4 hi_X5 hi_X7 hown hK hP ho1 (exAt.up (ex_ne hx1 hfr) hx1) 2 (by decide) hw_1 rfl dX5_gatherRowByRow_12 ?_
        refine lv_iload_n hx hb dX5_gatherRowByRow_15 rfl (lv_at hl 1 rfl) ?_
        refine vp_callSi (va_Run.run (va_runV (As := [.int (zI (z2))]) (rest := []) ⟨hx, hb, hml, hown, hts⟩ (kX6_row l D k L (va_up f r (.inl (k 0, 24, .inl (fa_fill (grF op g1 g2) g i)))) gs1 r1 g1 hgs1 ((va_up_ne _ _ (ne_k hfgs1 hfr (by simp))).trans hfgs1) hr1 ((va_up_ne _ _ hrr1).trans hfr1) (z2) (by omega)) (cwV 1 hts gX5_gatherRowByRow_X6_row rfl rfl rfl (by decide +kernel) ⟨Nat.le_of_ble_eq_true rfl, Nat.le_of_ble_eq_true rfl⟩) (rc_preV hC hP (pl_recv hK hP hgs1 ((va_up_ne _ _ (ne_k hfgs1 hfr (by simp))).trans hfgs1) (ci := 5) (q := (RX6, TX6, 1)) rfl)) rfl rfl hl.1 rfl (lv_room (Nat.le_of_ble_eq_true rfl)) dX5_gatherRowByRow_16 ⟨Nat.zero_le _, Nat.zero_le _⟩)) (fun r2 hr2 => ?_)
        subst hr2
        refine lv_istore_n (lv' := [(2, .int (rowAt g1 z2)), (0, .ref h), (1, .int (zI (z2)))]) hx hb dX5_gatherRowByRow_19 rfl hl (by decide) rfl (fun ls hl => ?_)
        refine lv_aload_n hx hb dX5_gatherRowByRow_20 rfl (lv_at hl 1 rfl) ?_
        refine pl_get (ci := 4) (v := .ref o2) (C := RX5) (T := TX5) (N := 7) hx hb hts hi_X5 hown hK hP hh ((va_up_ne _ _ (ne_k hfh hfr (by simp))).trans hfh) rfl 6 (by decide) hw_2 (fun _ h9 => h9) rfl dX5_gatherRowByRow_21 ?_
        refine pl_getE (v := .ref gs2) hx hb hts hi_X1 hi_X2 hi_X3 hi_X4 hi_X5 hi_X7 hown hK hP ho2 (exAt.up (ex_ne hx2 hfr) hx2) 2 (by decide) hw_1 rfl dX5_gatherRowByRow_24 ?_
        refine lv_iload_n hx hb dX5_gatherRowByRow_27 rfl (lv_at hl 2 rfl) ?_
        refine vp_callSi (va_Run.run (va_runV (As := [.int (zI (z2))]) (rest := []) ⟨hx, hb, hml, hown, hts⟩ (kX6_row l D k L (va_up f r (.inl (k 0, 24, .inl (fa_fill (grF op g1 g2) g i)))) gs2 r2 g2 hgs2 ((va_up_ne _ _ (ne_k hfgs2 hfr (by simp))).trans hfgs2) hr2 ((va_up_ne _ _ hrr2).trans hfr2) (z2) (by omega)) (cwV 1 hts gX5_gatherRowByRow_X6_row rfl rfl rfl (by decide +kernel) ⟨Nat.le_of_ble_eq_true rfl, Nat.le_of_ble_eq_true rfl⟩) (rc_preV hC hP (pl_recv hK hP hgs2 ((va_up_ne _ _ (ne_k hfgs2 hfr (by simp))).trans hfgs2) (ci := 5) (q := (RX6, TX6, 1)) rfl)) rfl rfl hl.1 rfl (lv_room (Nat.le_of_ble_eq_true rfl)) dX5_gatherRowByRow_28 ⟨Nat.zero_le _, Nat.zero_le _⟩)) (fun r3 hr3 => ?_)
        subst hr3
        refine lv_istore_n (lv' := [(3, .int (rowAt g2 z2)), (2, .int (rowAt g1 z2)), (0, .ref h), (1, .int (zI (z2)))]) hx hb dX5_gatherRowByRow_31 rfl hl (by decide) rfl (fun ls hl => ?_)
        refine lv_aload_n hx hb dX5_gatherRowByRow_32 rfl (lv_at hl 2 rfl) ?_
        refine pl_get (ci := 4) (v := .int (zI (op))) (C := RX5) (T := TX5) (N := 7) hx hb hts hi_X5 hown hK hP hh ((va_up_ne _ _ (ne_k hfh hfr (by simp))).trans hfh) rfl 4 (by decide) hw_3 (fun _ h9 => h9) rfl dX5_gatherRowByRow_33 ?_
        refine zr_if_ne (tgt := 53) hx hb dX5_gatherRowByRow_36 (by decide) (by omega) (fun c4 => ?_) (fun c4 => ?_)
        · refine lv_aload_n hx hb dX5_gatherRowByRow_53 rfl (lv_at hl 2 rfl) ?_
          refine pl_get (ci := 4) (v := .int (zI (op))) (C := RX5) (T := TX5) (N := 7) hx hb hts hi_X5 hown hK hP hh ((va_up_ne _ _ (ne_k hfh hfr (by simp))).trans hfh) rfl 4 (by decide) hw_3 (fun _ h9 => h9) rfl dX5_gatherRowByRow_54 ?_
          refine zr_const hx hb dX5_gatherRowByRow_57 ?_
          refine zr_icmp_ne (tgt := 75) hx hb dX5_gatherRowByRow_58 (by decide) (by omega) (by omega) (fun c5 => ?_) (fun c5 => ?_)
          · refine lv_aload_n hx hb dX5_gatherRowByRow_75 rfl (lv_at hl 2 rfl) ?_
            refine pl_get (ci := 4) (v := .ref gs) (C := RX5) (T := TX5) (N := 7) hx hb hts hi_X5 hown hK hP hh ((va_up_ne _ _ (ne_k hfh hfr (by simp))).trans hfh) rfl 2 (by decide) hw_4 (u_same hw_5) rfl dX5_gatherRowByRow_76 ?_
            refine lv_iload_n hx hb dX5_gatherRowByRow_79 rfl (lv_at hl 3 rfl) ?_
            refine lv_iload_n hx hb dX5_gatherRowByRow_80 rfl (lv_at hl 1 rfl) ?_
            refine lv_iload_n hx hb dX5_gatherRowByRow_81 rfl (lv_at hl 0 rfl) ?_
            refine zr_const hx hb dX5_gatherRowByRow_82 ?_
            refine lv_ixor hx hb dX5_gatherRowByRow_83 ?_
            refine lv_iand hx hb dX5_gatherRowByRow_84 ?_
            refine pc_callv (va_runV (As := [.int (zI (z2)), .int ((rowAt g1 z2) &&& ((rowAt g2 z2) ^^^ (zI (-1))))]) (rest := []) ⟨hx, hb, hml, hown, hts⟩ (kX6_setRow l D k L (va_up f r (.inl (k 0, 24, .inl (fa_fill (grF op g1 g2) g i)))) gs r ((fa_fill (grF op g1 g2) g i)) hgs ((va_up_ne _ _ (ne_k hfgs hfr (by simp))).trans hfgs) hr (va_up_self _ _ _) (z2) (by omega) ((rowAt g1 z2) &&& ((rowAt g2 z2) ^^^ (zI (-1)))) n0 _) (cwV 2 hts gX5_gatherRowByRow_X6_setRow rfl rfl rfl (by decide +kernel) ⟨Nat.le_of_ble_eq_true rfl, Nat.le_of_ble_eq_true rfl⟩) (pc_preV hC hP (Nat.le_trans hn9 hS.1) hD hAn (pl_recv hK hP hgs ((va_up_ne _ _ (ne_k hfgs hfr (by simp))).trans hfgs) (ci := 5) (q := (RX6, TX6, 1)) rfl)) rfl rfl hl.1 rfl (lv_room (Nat.le_of_ble_eq_true rfl)) dX5_gatherRowByRow_85 ⟨Nat.zero_le _, Nat.zero_le _⟩) hD hS hA (fun ur6 H locs hr6 hP hD hS hzr6 => ?_)
            subst hr6
            rw [bx_uu] at hP hD
            have hP : va_P D vwCl (va_pl L (va_up f r (.inl (k 0, 24, .inl (setR ((fa_fill (grF op g1 g2) g i)) z2 ((rowAt g1 z2) &&& ((rowAt g2 z2) ^^^ (zI (-1))))))))) H := hP
            have hD : va_D A (va_pl L (va_up f r (.inl (k 0, 24, .inl (setR ((fa_fill (grF op g1 g2) g i)) z2 ((rowAt g1 z2) &&& ((rowAt g2 z2) ^^^ (zI (-1))))))))) := hD
            refine zr_iinc (k := 3) (lv' := [(1, .int (zI (z2 + 1))), (3, .int (rowAt g2 z2)), (2, .int (rowAt g1 z2)), (0, .ref h)]) hx hb dX5_gatherRowByRow_88 hl rfl (by decide) rfl (fun ls hl => ?_)
            refine lv_goto (tgt := 2) hx hb dX5_gatherRowByRow_91 (by decide) ?_
            have hg9 : ((setR ((fa_fill (grF op g1 g2) g i)) z2 ((rowAt g1 z2) &&& ((rowAt g2 z2) ^^^ (zI (-1))))) : Nat → Int32) = fa_fill (grF op g1 g2) g (i + 1) := by first | exact fill_set (by omega) hz2 (gw_0 hz2 (by assumption)) | exact fill_set (by omega) hz2 (gw_1 hz2 (by assumption)) | exact fill_set (by omega) hz2 (gw_2 hz2 (by assumption) (by assumption))
            rw [hg9] at hP hD
            exact ih_2 (i + 1) (z2 + 1) (by omega) (by omega) (by omega) _ _ hP hD hS _ (lv_sub hl [3, 0] rfl)
          · refine lv_aload_n hx hb dX5_gatherRowByRow_61 rfl (lv_at hl 2 rfl) ?_
            refine pl_get (ci := 4) (v := .ref gs) (C := RX5) (T := TX5) (N := 7) hx hb hts hi_X5 hown hK hP hh ((va_up_ne _ _ (ne_k hfh hfr (by simp))).trans hfh) rfl 2 (by decide) hw_4 (u_same hw_5) rfl dX5_gatherRowByRow_62 ?_
            refine lv_iload_n hx hb dX5_gatherRowByRow_65 rfl (lv_at hl 3 rfl) ?_
            refine lv_iload_n hx hb dX5_gatherRowByRow_66 rfl (lv_at hl 1 rfl) ?_
            refine lv_iload_n hx hb dX5_gatherRowByRow_67 rfl (lv_at hl 0 rfl) ?_
            refine lv_iand hx hb dX5_gatherRowByRow_68 ?_
            refine pc_callv (va_runV (As := [.int (zI (z2)), .int ((rowAt g1 z2) &&& (rowAt g2 z2))]) (rest := []) ⟨hx, hb, hml, hown, hts⟩ (kX6_setRow l D k L (va_up f r (.inl (k 0, 24, .inl (fa_fill (grF op g1 g2) g i)))) gs r ((fa_fill (grF op g1 g2) g i)) hgs ((va_up_ne _ _ (ne_k hfgs hfr (by simp))).trans hfgs) hr (va_up_self _ _ _) (z2) (by omega) ((rowAt g1 z2) &&& (rowAt g2 z2)) n0 _) (cwV 2 hts gX5_gatherRowByRow_X6_setRow rfl rfl rfl (by decide +kernel) ⟨Nat.le_of_ble_eq_true rfl, Nat.le_of_ble_eq_true rfl⟩) (pc_preV hC hP (Nat.le_trans hn9 hS.1) hD hAn (pl_recv hK hP hgs ((va_up_ne _ _ (ne_k hfgs hfr (by simp))).trans hfgs) (ci := 5) (q := (RX6, TX6, 1)) rfl)) rfl rfl hl.1 rfl (lv_room (Nat.le_of_ble_eq_true rfl)) dX5_gatherRowByRow_69 ⟨Nat.zero_le _, Nat.zero_le _⟩) hD hS hA (fun ur7 H locs hr7 hP hD hS hzr7 => ?_)
            subst hr7
            rw [bx_uu] at hP hD
            have hP : va_P D vwCl (va_pl L (va_up f r (.inl (k 0, 24, .inl (setR ((fa_fill (grF op g1 g2) g i)) z2 ((rowAt g1 z2) &&& (rowAt g2 z2))))))) H := hP
            have hD : va_D A (va_pl L (va_up f r (.inl (k 0, 24, .inl (setR ((fa_fill (grF op g1 g2) g i)) z2 ((rowAt g1 z2) &&& (rowAt g2 z2))))))) := hD
            refine lv_goto (tgt := 88) hx hb dX5_gatherRowByRow_72 (by decide) ?_
            refine zr_iinc (k := 3) (lv' := [(1, .int (zI (z2 + 1))), (3, .int (rowAt g2 z2)), (2, .int (rowAt g1 z2)), (0, .ref h)]) hx hb dX5_gatherRowByRow_88 hl rfl (by decide) rfl (fun ls hl => ?_)
            refine lv_goto (tgt := 2) hx hb dX5_gatherRowByRow_91 (by decide) ?_
            have hg9 : ((setR ((fa_fill (grF op g1 g2) g i)) z2 ((rowAt g1 z2) &&& (rowAt g2 z2))) : Nat → Int32) = fa_fill (grF op g1 g2) g (i + 1) := by first | exact fill_set (by omega) hz2 (gw_0 hz2 (by assumption)) | exact fill_set (by omega) hz2 (gw_1 hz2 (by assumption)) | exact fill_set (by omega) hz2 (gw_2 hz2 (by assumption) (by assumption))
            rw [hg9] at hP hD
            exact ih_2 (i + 1) (z2 + 1) (by omega) (by omega) (by omega) _ _ hP hD hS _ (lv_sub hl [3, 0] rfl)
        · refine lv_aload_n hx hb dX5_gatherRowByRow_39 rfl (lv_at hl 2 rfl) ?_
          refine pl_get (ci := 4) (v := .ref gs) (C := RX5) (T := TX5) (N := 7) hx hb hts hi_X5 hown hK hP hh ((va_up_ne _ _ (ne_k hfh hfr (by simp))).trans hfh) rfl 2 (by decide) hw_4 (u_same hw_5) rfl dX5_gatherRowByRow_40 ?_
          refine lv_iload_n hx hb dX5_gatherRowByRow_43 rfl (lv_at hl 3 rfl) ?_
          refine lv_iload_n hx hb dX5_gatherRowByRow_44 rfl (lv_at hl 1 rfl) ?_
          refine lv_iload_n hx hb dX5_gatherRowByRow_45 rfl (lv_at hl 0 rfl) ?_
          refine lv_ior hx hb dX5_gatherRowByRow_46 ?_
          refine pc_callv (va_runV (As := [.int (zI (z2)), .int ((rowAt g1 z2) ||| (rowAt g2 z2))]) (rest := []) ⟨hx, hb, hml, hown, hts⟩ (kX6_setRow l D k L (va_up f r (.inl (k 0, 24, .inl (fa_fill (grF op g1 g2) g i)))) gs r ((fa_fill (grF op g1 g2) g i)) hgs ((va_up_ne _ _ (ne_k hfgs hfr (by simp))).trans hfgs) hr (va_up_self _ _ _) (z2) (by omega) ((rowAt g1 z2) ||| (rowAt g2 z2)) n0 _) (cwV 2 hts gX5_gatherRowByRow_X6_setRow rfl rfl rfl (by decide +kernel) ⟨Nat.le_of_ble_eq_true rfl, Nat.le_of_ble_eq_true rfl⟩) (pc_preV hC hP (Nat.le_trans hn9 hS.1) hD hAn (pl_recv hK hP hgs ((va_up_ne _ _ (ne_k hfgs hfr (by simp))).trans hfgs) (ci := 5) (q := (RX6, TX6, 1)) rfl)) rfl rfl hl.1 rfl (lv_room (Nat.le_of_ble_eq_true rfl)) dX5_gatherRowByRow_47 ⟨Nat.zero_le _, Nat.zero_le _⟩) hD hS hA (fun ur8 H locs hr8 hP hD hS hzr8 => ?_)
          subst hr8
          rw [bx_uu] at hP hD
          have hP : va_P D vwCl (va_pl L (va_up f r (.inl (k 0, 24, .inl (setR ((fa_fill (grF op g1 g2) g i)) z2 ((rowAt g1 z2) ||| (rowAt g2 z2))))))) H := hP
          have hD : va_D A (va_pl L (va_up f r (.inl (k 0, 24, .inl (setR ((fa_fill (grF op g1 g2) g i)) z2 ((rowAt g1 z2) ||| (rowAt g2 z2))))))) := hD
          refine lv_goto (tgt := 88) hx hb dX5_gatherRowByRow_50 (by decide) ?_
          refine zr_iinc (k := 3) (lv' := [(1, .int (zI (z2 + 1))), (3, .int (rowAt g2 z2)), (2, .int (rowAt g1 z2)), (0, .ref h)]) hx hb dX5_gatherRowByRow_88 hl rfl (by decide) rfl (fun ls hl => ?_)
          refine lv_goto (tgt := 2) hx hb dX5_gatherRowByRow_91 (by decide) ?_
          have hg9 : ((setR ((fa_fill (grF op g1 g2) g i)) z2 ((rowAt g1 z2) ||| (rowAt g2 z2))) : Nat → Int32) = fa_fill (grF op g1 g2) g (i + 1) := by first | exact fill_set (by omega) hz2 (gw_0 hz2 (by assumption)) | exact fill_set (by omega) hz2 (gw_1 hz2 (by assumption)) | exact fill_set (by omega) hz2 (gw_2 hz2 (by assumption) (by assumption))
          rw [hg9] at hP hD
          exact ih_2 (i + 1) (z2 + 1) (by omega) (by omega) (by omega) _ _ hP hD hS _ (lv_sub hl [3, 0] rfl)
  rw [← up_id (a := r) hfr] at hP hD
  have hg9 : (g : Nat → Int32) = fa_fill (grF op g1 g2) g (0) := by exact (fa_fill_0 _ _).symm
  rw [hg9] at hP hD
  exact cut_2 ((24 - (0) : Int).toNat + 1) (0) (0) (by omega) (by omega) (by omega) _ _ hP hD hS _ (lv_sub hl [1, 0] rfl)

set_option maxHeartbeats 4000000 in
set_option maxRecDepth 100000 in
theorem kX5_gatherByHolding (l : Launch) (D : va_G) (k : Nat → ClassId) (L : List Nat) (f : Nat → va_E) (h : Nat) (d : Int) (nd : Int32) (as : Nat) (op : Int) (hop : 0 ≤ op ∧ op ≤ 8) (o1 : Nat) (d1 : Int) (n1 : Int32) (gs1 as1 : Nat) (hd1 : -100 ≤ d1 ∧ d1 ≤ 100) (ho1 : o1 ∈ L) (hx1 : exAt f o1 (zI d1) n1 gs1 as1) (o2 : Nat) (d2 : Int) (n2 : Int32) (gs2 as2 : Nat) (hd2 : -100 ≤ d2 ∧ d2 ≤ 100) (ho2 : o2 ∈ L) (hx2 : exAt f o2 (zI d2) n2 gs2 as2) (gs r : Nat) (g : Nat → Int32) (hgs : gs ∈ L) (hfgs : f gs = .inr (5, [.ref r])) (hr : r ∈ L) (hfr : f r = .inl (k 0, 24, .inl g)) (r1 : Nat) (g1 : Nat → Int32) (hgs1 : gs1 ∈ L) (hfgs1 : f gs1 = .inr (5, [.ref r1])) (hr1 : r1 ∈ L) (hfr1 : f r1 = .inl (k 0, 24, .inl g1)) (hrr1 : r1 ≠ r) (r2 : Nat) (g2 : Nat → Int32) (hgs2 : gs2 ∈ L) (hfgs2 : f gs2 = .inr (5, [.ref r2])) (hr2 : r2 ∈ L) (hfr2 : f r2 = .inl (k 0, 24, .inl g2)) (hrr2 : r2 ≠ r) (hh : h ∈ L) (hfh : f h = .inr (4, [.int (zI d), .int nd, .ref gs, .ref as, .int (zI op), .ref o1, .ref o2])) (b9 : Bool) (n0 sz : Nat) : Met l yX5_gatherByHolding wsX5_gatherByHolding ({ frames := 2, cells := 0, slots := 0, locals := 44 } : Room) (va_Pc [.ref h, .int (bI (b9))] (pPre D (tyL k) n0 (va_pl L f) sz)) (va_Qv (fun u => u = va_pl L (va_up f r (.inl (k 0, 24, .inl (fa_fill (ghF b9 g1 g2) g 24))))) (pB D (va_pl L f) sz) (va_A (va_pl L f) sz)) 0 0 (va_A (va_pl L f) sz) := by
  refine Met.ofW (cc := cX5_gatherByHolding) (maxL := 5) (ret := none) (by decide) rfl ?_
  intro p e s m args below meth c s₁ B hml hv
  obtain ⟨rfl, hsz, hn9, hP, hC, hD0⟩ := hv
  have hK := hC.1
  have hNW := hC.2.1
  have hx := B.exec
  have hb := B.bytes
  have hrt := B.returns
  have hts := atoms_spec (ws := wsX5_gatherByHolding) B.pre
  have hown : s.vm.findClass RX5 = some m.cls := findClass_of_methodNamed B.named
  have hlocks := B.notSynchronized
  subst hsz
  obtain ⟨A, hAd⟩ : ∃ A, A = va_A (va_pl L f) s.heap.size := ⟨_, rfl⟩
  have hD := hD0.self (sz := s.heap.size)
  rw [← hAd] at hD
  have hA : ∀ q : Nat, s.heap.size ≤ q → A q := fun q h => by rw [hAd]; exact Or.inr h
  have hAn : ∀ q : Nat, A q → n0 ≤ q := fun q h => by
    rw [hAd] at h
    rcases h with ⟨k9, e9, hk9⟩ | h
    · exact hD0.2 k9 _ hk9
    · exact Nat.le_trans hn9 h
  have hS : va_S A s.heap s.heap [] := va_S.rf
  have hi_X5 : ∀ w ∈ u_ws RX5 TX5 7, w ∈ wsX5_gatherByHolding := by decide +kernel
  have hi_X1 : ∀ w ∈ u_ws RX1 TX1 5, w ∈ wsX5_gatherByHolding := by decide +kernel
  have hi_X2 : ∀ w ∈ u_ws RX2 TX2 5, w ∈ wsX5_gatherByHolding := by decide +kernel
  have hi_X3 : ∀ w ∈ u_ws RX3 TX3 7, w ∈ wsX5_gatherByHolding := by decide +kernel
  have hi_X4 : ∀ w ∈ u_ws RX4 TX4 6, w ∈ wsX5_gatherByHolding := by decide +kernel
  have hi_X7 : ∀ w ∈ u_ws RX7 TX7 7, w ∈ wsX5_gatherByHolding := by decide +kernel
  have hw_0 := hts (.fieldLink RX5 26 "Regionry$PairExpression" "other" "LRegionry$Expression;") (by decide +kernel)
  have hw_1 := hts (.fieldLink RX5 46 "Regionry$Expression" "gathered" "LRegionry$RegionSet;") (by decide +kernel)
  have hw_2 := hts (.methodLink RX5 64 Lib.Math.min.name) (by decide +kernel)
  have hw_3 := hts (.static Lib.Math.min.name) (by decide +kernel)
  have hw_4 := hts (.initialized "java/lang/Math") (by decide +kernel)
  have hw_5 := hts (.code Lib.Math.min.name Lib.Math.min.code 2 (some .int)) (by decide +kernel)
  have hw_6 := hts (.initialized RX9) (by decide +kernel)
  have hw_7 := hts (.static yX9_onwardFrom) (by decide +kernel)
  have hw_8 := hts (.fieldLink RX5 56 "Regionry$PairExpression" "gathered" "LRegionry$RegionSet;") (by decide +kernel)
  have hw_9 := hts (.sameField "Regionry$PairExpression" "Regionry$Expression" "gathered" "LRegionry$RegionSet;") (by decide +kernel)
  have hw_10 := hts (.fieldLink RX5 22 "Regionry$PairExpression" "one" "LRegionry$Expression;") (by decide +kernel)
  have hl := lv_entry ([.ref h, .int (bI (b9))]) (n := 5) (Nat.le_of_ble_eq_true rfl)
  rw [lg_entry_eq]
  generalize (lg_sl ([.ref h, .int (bI (b9))]) ++ List.replicate (5 - (lg_sl ([.ref h, .int (bI (b9))])).length) Slot.unset).toArray = ls at hl ⊢
  have hl : lv_has ls 5 [(0, .ref h), (1, .int (bI (b9)))] := hl
  obtain ⟨Q, hQ⟩ : ∃ Q, Q = MQ below (va_Qv (fun u => u = va_pl L (va_up f r (.inl (k 0, 24, .inl (fa_fill (ghF b9 g1 g2) g 24))))) (pB D (va_pl L f) s.heap.size) (va_A (va_pl L f) s.heap.size)) ([.ref h, .int (bI (b9))] : List Value).toArray s 0 0 (va_A (va_pl L f) s.heap.size) := ⟨_, rfl⟩
  rw [← hQ]
  refine zr_bipush hx hb dX5_gatherByHolding_0 (by decide) ?_
  refine lv_istore_n (lv' := [(2, .int (zI (25))), (0, .ref h), (1, .int (bI (b9)))]) hx hb dX5_gatherByHolding_2 rfl hl (by decide) rfl (fun ls hl => ?_)
  refine zr_bipush hx hb dX5_gatherByHolding_3 (by decide) ?_
  refine lv_istore_n (lv' := [(3, .int (zI (23))), (2, .int (zI (25))), (0, .ref h), (1, .int (bI (b9)))]) hx hb dX5_gatherByHolding_5 rfl hl (by decide) rfl (fun ls hl => ?_)
  have cut_6 : ∀ (n9 : Nat) (z3 : Int) (z2 : Int), (-1 ≤ z3 ∧ z3 ≤ 23) → (0 ≤ z2 ∧ z2 ≤ 25) → (z2 = ((nrF g2 (23 - z3).toNat : Nat) : Int)) → z3 + 1 < (n9 : Int) → ∀ (H : Heap) (locs : List Loc), va_P D vwCl (va_pl L (va_up f r (.inl (k 0, 24, .inl (dnF (ghF b9 g1 g2) g z3))))) H → va_D A (va_pl L (va_up f r (.inl (k 0, 24, .inl (dnF (ghF b9 g1 g2) g z3))))) → va_S A s.heap H locs → ∀ (ls : Array Slot), lv_has ls 5 [(0, .ref h), (1, .int (bI (b9))), (2, .int (zI (z2))), (3, .int (zI (z3)))] → W p l e (headSpec wsX5_gatherByHolding ({ frames := 2, cells := 0, slots := 0, locals := 44 } : Room)).room s m ([.ref h, .int (bI (b9))] : List Value).toArray below meth c H locs 0 0 Q (F0 m 6 ls []) := by
    intro n9
    induction n9 with
    | zero =>
      intro z3 z2 hz3 hb2 hz2 hfu
      exact absurd hfu (by omega)
    | succ n9 ih_6 =>
      intro z3 z2 hz3 hb2 hz2 hfu H locs hP hD hS ls hl
      refine lv_iload_n hx hb dX5_gatherByHolding_6 rfl (lv_at hl 3 rfl) ?_
      refine zr_if_lt (tgt := 71) hx hb dX5_gatherByHolding_7 (by decide) (by omega) (fun c1 => ?_) (fun c1 => ?_)
      · rw [hQ]
        exact pc_vret hx hb hrt hP (by rw [← hAd]; exact hD) (by rw [← hAd]; exact hS) (by obtain rfl : z3 = -1 := (by omega); rw [dn_e]) dX5_gatherByHolding_71 hlocks
      · refine lv_iload_n hx hb dX5_gatherByHolding_10 rfl (lv_at hl 2 rfl) ?_
        refine lv_aload_n hx hb dX5_gatherByHolding_11 rfl (lv_at hl 0 rfl) ?_
        refine pl_get (ci := 4) (v := .ref o2) (C := RX5) (T := TX5) (N := 7) hx hb hts hi_X5 hown hK hP hh ((va_up_ne _ _ (ne_k hfh hfr (by simp))).trans hfh) rfl 6 (by decide) hw_0 (fun _ h9 => h9) rfl dX5_gatherByHolding_12 ?_
        refine pl_getE (v := .ref gs2) hx hb hts hi_X1 hi_X2 hi_X3 hi_X4 hi_X5 hi_X7 hown hK hP ho2 (exAt.up (ex_ne hx2 hfr) hx2) 2 (by decide) hw_1 rfl dX5_gatherByHolding_15 ?_
        refine lv_iload_n hx hb dX5_gatherByHolding_18 rfl (lv_at hl 3 rfl) ?_
        refine vp_callSi (va_Run.run (va_runV (As := [.int (zI (z3))]) (rest := [.int (zI (z2))]) ⟨hx, hb, hml, hown, hts⟩ (kX6_lowestEnd l D k L (va_up f r (.inl (k 0, 24, .inl (dnF (ghF b9 g1 g2) g z3)))) gs2 r2 g2 hgs2 ((va_up_ne _ _ (ne_k hfgs2 hfr (by simp))).trans hfgs2) hr2 ((va_up_ne _ _ hrr2).trans hfr2) (z3) (by omega)) (cwV 1 hts gX5_gatherByHolding_X6_lowestEnd rfl rfl rfl (by decide +kernel) ⟨Nat.le_of_ble_eq_true rfl, Nat.le_of_ble_eq_true rfl⟩) (rc_preV hC hP (pl_recv hK hP hgs2 ((va_up_ne _ _ (ne_k hfgs2 hfr (by simp))).trans hfgs2) (ci := 5) (q := (RX6, TX6, 1)) rfl)) rfl rfl hl.1 rfl (lv_room (Nat.le_of_ble_eq_true rfl)) dX5_gatherByHolding_19 ⟨Nat.zero_le _, Nat.zero_le _⟩)) (fun r2 hr2 => ?_)
        subst hr2
        have hlo9 := lowE_le (rowAt g2 z3) z3
        have hlg9 := lowE_gt (x := rowAt g2 z3) (a := z3) (by omega)
        refine va_mmin hx hb (hml.trans hl.1.symm) hown hw_2 hw_3 hw_4 hw_5 (Nat.le_of_ble_eq_true rfl) (Nat.le_of_ble_eq_true rfl) (Nat.zero_le _) (Nat.zero_le _) dX5_gatherByHolding_22 ?_
        refine zr_top (zI_min (by omega) (by omega)) ?_
        refine lv_istore_n (lv' := [(2, .int (zI (min z2 (((lowE (rowAt g2 z3) z3 : Nat) : Int))))), (0, .ref h), (1, .int (bI (b9))), (3, .int (zI (z3)))]) hx hb dX5_gatherByHolding_25 rfl hl (by decide) rfl (fun ls hl => ?_)
        refine lv_iload_n hx hb dX5_gatherByHolding_26 rfl (lv_at hl 0 rfl) ?_
        refine vp_callSi (va_Run.run (va_runSN (As := [.int (zI (min z2 (((lowE (rowAt g2 z3) z3 : Nat) : Int))))]) (rest := []) ⟨hx, hb, hml, hown, hts⟩ (kX9_onwardFrom l D k L (va_up f r (.inl (k 0, 24, .inl (dnF (ghF b9 g1 g2) g z3)))) (min z2 (((lowE (rowAt g2 z3) z3 : Nat) : Int))) (by omega)) ⟨va_cnB 1 hts gX5_gatherByHolding_X9_onwardFrom_n70 rfl rfl rfl (hNW (.methodLinkNest RX5 70 yX9_onwardFrom "Regionry") (by decide +kernel)) hw_6 (by decide +kernel) ⟨Nat.le_of_ble_eq_true rfl, Nat.le_of_ble_eq_true rfl⟩, hw_7, trivial⟩ (rc_preS hC hP) rfl rfl hl.1 rfl (lv_room (Nat.le_of_ble_eq_true rfl)) dX5_gatherByHolding_27 ⟨Nat.zero_le _, Nat.zero_le _⟩)) (fun r3 hr3 => ?_)
        subst hr3
        refine lv_istore (lv' := [(4, .int (onM (min z2 (((lowE (rowAt g2 z3) z3 : Nat) : Int))))), (2, .int (zI (min z2 (((lowE (rowAt g2 z3) z3 : Nat) : Int))))), (0, .ref h), (1, .int (bI (b9))), (3, .int (zI (z3)))]) hx hb dX5_gatherByHolding_30 hl (by decide) rfl (fun ls hl => ?_)
        refine lv_aload_n hx hb dX5_gatherByHolding_32 rfl (lv_at hl 2 rfl) ?_
        refine pl_get (ci := 4) (v := .ref gs) (C := RX5) (T := TX5) (N := 7) hx hb hts hi_X5 hown hK hP hh ((va_up_ne _ _ (ne_k hfh hfr (by simp))).trans hfh) rfl 2 (by decide) hw_8 (u_same hw_9) rfl dX5_gatherByHolding_33 ?_
        refine lv_iload_n hx hb dX5_gatherByHolding_36 rfl (lv_at hl 4 rfl) ?_
        refine lv_aload_n hx hb dX5_gatherByHolding_37 rfl (lv_at hl 2 rfl) ?_
        refine pl_get (ci := 4) (v := .ref o1) (C := RX5) (T := TX5) (N := 7) hx hb hts hi_X5 hown hK hP hh ((va_up_ne _ _ (ne_k hfh hfr (by simp))).trans hfh) rfl 5 (by decide) hw_10 (fun _ h9 => h9) rfl dX5_gatherByHolding_38 ?_
        refine pl_getE (v := .ref gs1) hx hb hts hi_X1 hi_X2 hi_X3 hi_X4 hi_X5 hi_X7 hown hK hP ho1 (exAt.up (ex_ne hx1 hfr) hx1) 2 (by decide) hw_1 rfl dX5_gatherByHolding_41 ?_
        refine lv_iload_n hx hb dX5_gatherByHolding_44 rfl (lv_at hl 4 rfl) ?_
        refine vp_callSi (va_Run.run (va_runV (As := [.int (zI (z3))]) (rest := [.int (zI (z3)), .ref gs]) ⟨hx, hb, hml, hown, hts⟩ (kX6_row l D k L (va_up f r (.inl (k 0, 24, .inl (dnF (ghF b9 g1 g2) g z3)))) gs1 r1 g1 hgs1 ((va_up_ne _ _ (ne_k hfgs1 hfr (by simp))).trans hfgs1) hr1 ((va_up_ne _ _ hrr1).trans hfr1) (z3) (by omega)) (cwV 1 hts gX5_gatherByHolding_X6_row rfl rfl rfl (by decide +kernel) ⟨Nat.le_of_ble_eq_true rfl, Nat.le_of_ble_eq_true rfl⟩) (rc_preV hC hP (pl_recv hK hP hgs1 ((va_up_ne _ _ (ne_k hfgs1 hfr (by simp))).trans hfgs1) (ci := 5) (q := (RX6, TX6, 1)) rfl)) rfl rfl hl.1 rfl (lv_room (Nat.le_of_ble_eq_true rfl)) dX5_gatherByHolding_45 ⟨Nat.zero_le _, Nat.zero_le _⟩)) (fun r4 hr4 => ?_)
        subst hr4
        refine lv_iload_n hx hb dX5_gatherByHolding_48 rfl (lv_at hl 3 rfl) ?_
        refine zr_ifb_eq (tgt := 57) hx hb dX5_gatherByHolding_49 (by decide) (fun c5 => ?_) (fun c5 => ?_)
        · refine lv_iload hx hb dX5_gatherByHolding_57 (lv_at hl 0 rfl) ?_
          refine zr_const hx hb dX5_gatherByHolding_59 ?_
          refine lv_ixor hx hb dX5_gatherByHolding_60 ?_
          refine lv_iand hx hb dX5_gatherByHolding_61 ?_
          refine pc_callv (va_runV (As := [.int (zI (z3)), .int ((rowAt g1 z3) &&& ((onM (min z2 (((lowE (rowAt g2 z3) z3 : Nat) : Int)))) ^^^ (zI (-1))))]) (rest := []) ⟨hx, hb, hml, hown, hts⟩ (kX6_setRow l D k L (va_up f r (.inl (k 0, 24, .inl (dnF (ghF b9 g1 g2) g z3)))) gs r ((dnF (ghF b9 g1 g2) g z3)) hgs ((va_up_ne _ _ (ne_k hfgs hfr (by simp))).trans hfgs) hr (va_up_self _ _ _) (z3) (by omega) ((rowAt g1 z3) &&& ((onM (min z2 (((lowE (rowAt g2 z3) z3 : Nat) : Int)))) ^^^ (zI (-1)))) n0 _) (cwV 2 hts gX5_gatherByHolding_X6_setRow rfl rfl rfl (by decide +kernel) ⟨Nat.le_of_ble_eq_true rfl, Nat.le_of_ble_eq_true rfl⟩) (pc_preV hC hP (Nat.le_trans hn9 hS.1) hD hAn (pl_recv hK hP hgs ((va_up_ne _ _ (ne_k hfgs hfr (by simp))).trans hfgs) (ci := 5) (q := (RX6, TX6, 1)) rfl)) rfl rfl hl.1 rfl (lv_room (Nat.le_of_ble_eq_true rfl)) dX5_gatherByHolding_62 ⟨Nat.zero_le _, Nat.zero_le _⟩) hD hS hA (fun ur6 H locs hr6 hP hD hS hzr6 => ?_)
          subst hr6
          rw [bx_uu] at hP hD
          have hP : va_P D vwCl (va_pl L (va_up f r (.inl (k 0, 24, .inl (setR ((dnF (ghF b9 g1 g2) g z3)) z3 ((rowAt g1 z3) &&& ((onM (min z2 (((lowE (rowAt g2 z3) z3 : Nat) : Int)))) ^^^ (zI (-1))))))))) H := hP
          have hD : va_D A (va_pl L (va_up f r (.inl (k 0, 24, .inl (setR ((dnF (ghF b9 g1 g2) g z3)) z3 ((rowAt g1 z3) &&& ((onM (min z2 (((lowE (rowAt g2 z3) z3 : Nat) : Int)))) ^^^ (zI (-1))))))))) := hD
          refine zr_iinc (k := 4) (lv' := [(3, .int (zI (z3 + (-1)))), (4, .int (onM (min z2 (((lowE (rowAt g2 z3) z3 : Nat) : Int))))), (2, .int (zI (min z2 (((lowE (rowAt g2 z3) z3 : Nat) : Int))))), (0, .ref h), (1, .int (bI (b9)))]) hx hb dX5_gatherByHolding_65 hl rfl (by decide) rfl (fun ls hl => ?_)
          refine lv_goto (tgt := 6) hx hb dX5_gatherByHolding_68 (by decide) ?_
          have hg9 : ((setR ((dnF (ghF b9 g1 g2) g z3)) z3 ((rowAt g1 z3) &&& ((onM (min z2 (((lowE (rowAt g2 z3) z3 : Nat) : Int)))) ^^^ (zI (-1))))) : Nat → Int32) = dnF (ghF b9 g1 g2) g (z3 + (-1)) := by exact dn_s (by omega) (gh_x (by omega) (nrF_s (by omega) hz2) (by first | rw [if_pos (by assumption)] | rw [if_neg (by simp [*])]))
          rw [hg9] at hP hD
          exact ih_6 (z3 + (-1)) (min z2 (((lowE (rowAt g2 z3) z3 : Nat) : Int))) (by omega) (by omega) (nrF_s (by omega) hz2) (by omega) _ _ hP hD hS _ (lv_sub hl [3, 4, 2, 0] rfl)
        · refine lv_iload hx hb dX5_gatherByHolding_52 (lv_at hl 0 rfl) ?_
          refine lv_goto (tgt := 61) hx hb dX5_gatherByHolding_54 (by decide) ?_
          refine lv_iand hx hb dX5_gatherByHolding_61 ?_
          refine pc_callv (va_runV (As := [.int (zI (z3)), .int ((rowAt g1 z3) &&& (onM (min z2 (((lowE (rowAt g2 z3) z3 : Nat) : Int)))))]) (rest := []) ⟨hx, hb, hml, hown, hts⟩ (kX6_setRow l D k L (va_up f r (.inl (k 0, 24, .inl (dnF (ghF b9 g1 g2) g z3)))) gs r ((dnF (ghF b9 g1 g2) g z3)) hgs ((va_up_ne _ _ (ne_k hfgs hfr (by simp))).trans hfgs) hr (va_up_self _ _ _) (z3) (by omega) ((rowAt g1 z3) &&& (onM (min z2 (((lowE (rowAt g2 z3) z3 : Nat) : Int))))) n0 _) (cwV 2 hts gX5_gatherByHolding_X6_setRow rfl rfl rfl (by decide +kernel) ⟨Nat.le_of_ble_eq_true rfl, Nat.le_of_ble_eq_true rfl⟩) (pc_preV hC hP (Nat.le_trans hn9 hS.1) hD hAn (pl_recv hK hP hgs ((va_up_ne _ _ (ne_k hfgs hfr (by simp))).trans hfgs) (ci := 5) (q := (RX6, TX6, 1)) rfl)) rfl rfl hl.1 rfl (lv_room (Nat.le_of_ble_eq_true rfl)) dX5_gatherByHolding_62 ⟨Nat.zero_le _, Nat.zero_le _⟩) hD hS hA (fun ur7 H locs hr7 hP hD hS hzr7 => ?_)
          subst hr7
          rw [bx_uu] at hP hD
          have hP : va_P D vwCl (va_pl L (va_up f r (.inl (k 0, 24, .inl (setR ((dnF (ghF b9 g1 g2) g z3)) z3 ((rowAt g1 z3) &&& (onM (min z2 (((lowE (rowAt g2 z3) z3 : Nat) : Int)))))))))) H := hP
          have hD : va_D A (va_pl L (va_up f r (.inl (k 0, 24, .inl (setR ((dnF (ghF b9 g1 g2) g z3)) z3 ((rowAt g1 z3) &&& (onM (min z2 (((lowE (rowAt g2 z3) z3 : Nat) : Int)))))))))) := hD
          refine zr_iinc (k := 4) (lv' := [(3, .int (zI (z3 + (-1)))), (4, .int (onM (min z2 (((lowE (rowAt g2 z3) z3 : Nat) : Int))))), (2, .int (zI (min z2 (((lowE (rowAt g2 z3) z3 : Nat) : Int))))), (0, .ref h), (1, .int (bI (b9)))]) hx hb dX5_gatherByHolding_65 hl rfl (by decide) rfl (fun ls hl => ?_)
          refine lv_goto (tgt := 6) hx hb dX5_gatherByHolding_68 (by decide) ?_
          have hg9 : ((setR ((dnF (ghF b9 g1 g2) g z3)) z3 ((rowAt g1 z3) &&& (onM (min z2 (((lowE (rowAt g2 z3) z3 : Nat) : Int)))))) : Nat → Int32) = dnF (ghF b9 g1 g2) g (z3 + (-1)) := by exact dn_s (by omega) (gh_x (by omega) (nrF_s (by omega) hz2) (by first | rw [if_pos (by assumption)] | rw [if_neg (by simp [*])]))
          rw [hg9] at hP hD
          exact ih_6 (z3 + (-1)) (min z2 (((lowE (rowAt g2 z3) z3 : Nat) : Int))) (by omega) (by omega) (nrF_s (by omega) hz2) (by omega) _ _ hP hD hS _ (lv_sub hl [3, 4, 2, 0] rfl)
  rw [← up_id (a := r) hfr] at hP hD
  have hg9 : (g : Nat → Int32) = dnF (ghF b9 g1 g2) g (23) := by exact (dn_0 _ _).symm
  rw [hg9] at hP hD
  exact cut_6 (((23) + 1 : Int).toNat + 1) (23) (25) (by omega) (by omega) (rfl) (by omega) _ _ hP hD hS _ (lv_sub hl [2, 3, 1, 0] rfl)

set_option maxHeartbeats 4000000 in
set_option maxRecDepth 100000 in
theorem kX5_gatherByLying (l : Launch) (D : va_G) (k : Nat → ClassId) (L : List Nat) (f : Nat → va_E) (h : Nat) (d : Int) (nd : Int32) (as : Nat) (op : Int) (hop : 0 ≤ op ∧ op ≤ 8) (o1 : Nat) (d1 : Int) (n1 : Int32) (gs1 as1 : Nat) (hd1 : -100 ≤ d1 ∧ d1 ≤ 100) (ho1 : o1 ∈ L) (hx1 : exAt f o1 (zI d1) n1 gs1 as1) (o2 : Nat) (d2 : Int) (n2 : Int32) (gs2 as2 : Nat) (hd2 : -100 ≤ d2 ∧ d2 ≤ 100) (ho2 : o2 ∈ L) (hx2 : exAt f o2 (zI d2) n2 gs2 as2) (gs r : Nat) (g : Nat → Int32) (hgs : gs ∈ L) (hfgs : f gs = .inr (5, [.ref r])) (hr : r ∈ L) (hfr : f r = .inl (k 0, 24, .inl g)) (r1 : Nat) (g1 : Nat → Int32) (hgs1 : gs1 ∈ L) (hfgs1 : f gs1 = .inr (5, [.ref r1])) (hr1 : r1 ∈ L) (hfr1 : f r1 = .inl (k 0, 24, .inl g1)) (hrr1 : r1 ≠ r) (r2 : Nat) (g2 : Nat → Int32) (hgs2 : gs2 ∈ L) (hfgs2 : f gs2 = .inr (5, [.ref r2])) (hr2 : r2 ∈ L) (hfr2 : f r2 = .inl (k 0, 24, .inl g2)) (hrr2 : r2 ≠ r) (hh : h ∈ L) (hfh : f h = .inr (4, [.int (zI d), .int nd, .ref gs, .ref as, .int (zI op), .ref o1, .ref o2])) (b9 : Bool) (n0 sz : Nat) : Met l yX5_gatherByLying wsX5_gatherByLying ({ frames := 2, cells := 0, slots := 0, locals := 44 } : Room) (va_Pc [.ref h, .int (bI (b9))] (pPre D (tyL k) n0 (va_pl L f) sz)) (va_Qv (fun u => u = va_pl L (va_up f r (.inl (k 0, 24, .inl (fa_fill (glF b9 g1 g2) g 24))))) (pB D (va_pl L f) sz) (va_A (va_pl L f) sz)) 0 0 (va_A (va_pl L f) sz) := by
  refine Met.ofW (cc := cX5_gatherByLying) (maxL := 5) (ret := none) (by decide) rfl ?_
  intro p e s m args below meth c s₁ B hml hv
  obtain ⟨rfl, hsz, hn9, hP, hC, hD0⟩ := hv
  have hK := hC.1
  have hNW := hC.2.1
  have hx := B.exec
  have hb := B.bytes
  have hrt := B.returns
  have hts := atoms_spec (ws := wsX5_gatherByLying) B.pre
  have hown : s.vm.findClass RX5 = some m.cls := findClass_of_methodNamed B.named
  have hlocks := B.notSynchronized
  subst hsz
  obtain ⟨A, hAd⟩ : ∃ A, A = va_A (va_pl L f) s.heap.size := ⟨_, rfl⟩
  have hD := hD0.self (sz := s.heap.size)
  rw [← hAd] at hD
  have hA : ∀ q : Nat, s.heap.size ≤ q → A q := fun q h => by rw [hAd]; exact Or.inr h
  have hAn : ∀ q : Nat, A q → n0 ≤ q := fun q h => by
    rw [hAd] at h
    rcases h with ⟨k9, e9, hk9⟩ | h
    · exact hD0.2 k9 _ hk9
    · exact Nat.le_trans hn9 h
  have hS : va_S A s.heap s.heap [] := va_S.rf
  have hi_X5 : ∀ w ∈ u_ws RX5 TX5 7, w ∈ wsX5_gatherByLying := by decide +kernel
  have hi_X1 : ∀ w ∈ u_ws RX1 TX1 5, w ∈ wsX5_gatherByLying := by decide +kernel
  have hi_X2 : ∀ w ∈ u_ws RX2 TX2 5, w ∈ wsX5_gatherByLying := by decide +kernel
  have hi_X3 : ∀ w ∈ u_ws RX3 TX3 7, w ∈ wsX5_gatherByLying := by decide +kernel
  have hi_X4 : ∀ w ∈ u_ws RX4 TX4 6, w ∈ wsX5_gatherByLying := by decide +kernel
  have hi_X7 : ∀ w ∈ u_ws RX7 TX7 7, w ∈ wsX5_gatherByLying := by decide +kernel
  have hw_0 := hts (.fieldLink RX5 26 "Regionry$PairExpression" "other" "LRegionry$Expression;") (by decide +kernel)
  have hw_1 := hts (.fieldLink RX5 46 "Regionry$Expression" "gathered" "LRegionry$RegionSet;") (by decide +kernel)
  have hw_2 := hts (.methodLink RX5 76 Lib.Math.max.name) (by decide +kernel)
  have hw_3 := hts (.static Lib.Math.max.name) (by decide +kernel)
  have hw_4 := hts (.initialized "java/lang/Math") (by decide +kernel)
  have hw_5 := hts (.code Lib.Math.max.name Lib.Math.max.code 2 (some .int)) (by decide +kernel)
  have hw_6 := hts (.initialized RX9) (by decide +kernel)
  have hw_7 := hts (.static yX9_upTo) (by decide +kernel)
  have hw_8 := hts (.fieldLink RX5 56 "Regionry$PairExpression" "gathered" "LRegionry$RegionSet;") (by decide +kernel)
  have hw_9 := hts (.sameField "Regionry$PairExpression" "Regionry$Expression" "gathered" "LRegionry$RegionSet;") (by decide +kernel)
  have hw_10 := hts (.fieldLink RX5 22 "Regionry$PairExpression" "one" "LRegionry$Expression;") (by decide +kernel)
  have hl := lv_entry ([.ref h, .int (bI (b9))]) (n := 5) (Nat.le_of_ble_eq_true rfl)
  rw [lg_entry_eq]
  generalize (lg_sl ([.ref h, .int (bI (b9))]) ++ List.replicate (5 - (lg_sl ([.ref h, .int (bI (b9))])).length) Slot.unset).toArray = ls at hl ⊢
  have hl : lv_has ls 5 [(0, .ref h), (1, .int (bI (b9)))] := hl
  obtain ⟨Q, hQ⟩ : ∃ Q, Q = MQ below (va_Qv (fun u => u = va_pl L (va_up f r (.inl (k 0, 24, .inl (fa_fill (glF b9 g1 g2) g 24))))) (pB D (va_pl L f) s.heap.size) (va_A (va_pl L f) s.heap.size)) ([.ref h, .int (bI (b9))] : List Value).toArray s 0 0 (va_A (va_pl L f) s.heap.size) := ⟨_, rfl⟩
  rw [← hQ]
  refine zr_const hx hb dX5_gatherByLying_0 ?_
  refine lv_istore_n (lv' := [(2, .int (zI (0))), (0, .ref h), (1, .int (bI (b9)))]) hx hb dX5_gatherByLying_1 rfl hl (by decide) rfl (fun ls hl => ?_)
  refine zr_const hx hb dX5_gatherByLying_2 ?_
  refine lv_istore_n (lv' := [(3, .int (zI (0))), (2, .int (zI (0))), (0, .ref h), (1, .int (bI (b9)))]) hx hb dX5_gatherByLying_3 rfl hl (by decide) rfl (fun ls hl => ?_)
  have cut_4 : ∀ (n9 : Nat) (i : Nat) (z3 : Int) (z2 : Int), (i ≤ 24) → (z3 = i) → (0 ≤ z2 ∧ z2 ≤ 24) → (z2 = ((frF g2 i : Nat) : Int)) → 24 - z3 < (n9 : Int) → ∀ (H : Heap) (locs : List Loc), va_P D vwCl (va_pl L (va_up f r (.inl (k 0, 24, .inl (fa_fill (glF b9 g1 g2) g i))))) H → va_D A (va_pl L (va_up f r (.inl (k 0, 24, .inl (fa_fill (glF b9 g1 g2) g i))))) → va_S A s.heap H locs → ∀ (ls : Array Slot), lv_has ls 5 [(0, .ref h), (1, .int (bI (b9))), (2, .int (zI (z2))), (3, .int (zI (z3)))] → W p l e (headSpec wsX5_gatherByLying ({ frames := 2, cells := 0, slots := 0, locals := 44 } : Room)).room s m ([.ref h, .int (bI (b9))] : List Value).toArray below meth c H locs 0 0 Q (F0 m 4 ls []) := by
    intro n9
    induction n9 with
    | zero =>
      intro i z3 z2 hi hz3 hb2 hz2 hfu
      exact absurd hfu (by omega)
    | succ n9 ih_4 =>
      intro i z3 z2 hi hz3 hb2 hz2 hfu H locs hP hD hS ls hl
      refine lv_iload_n hx hb dX5_gatherByLying_4 rfl (lv_at hl 3 rfl) ?_
      refine zr_bipush hx hb dX5_gatherByLying_5 (by decide) ?_
      refine zr_icmp_ge (tgt := 71) hx hb dX5_gatherByLying_7 (by decide) (by omega) (by omega) (fun c1 => ?_) (fun c1 => ?_)
      · rw [hQ]
        exact pc_vret hx hb hrt hP (by rw [← hAd]; exact hD) (by rw [← hAd]; exact hS) (by obtain rfl : i = 24 := (by omega); rfl) dX5_gatherByLying_71 hlocks
      · refine lv_iload_n hx hb dX5_gatherByLying_10 rfl (lv_at hl 2 rfl) ?_
        refine lv_aload_n hx hb dX5_gatherByLying_11 rfl (lv_at hl 0 rfl) ?_
        refine pl_get (ci := 4) (v := .ref o2) (C := RX5) (T := TX5) (N := 7) hx hb hts hi_X5 hown hK hP hh ((va_up_ne _ _ (ne_k hfh hfr (by simp))).trans hfh) rfl 6 (by decide) hw_0 (fun _ h9 => h9) rfl dX5_gatherByLying_12 ?_
        refine pl_getE (v := .ref gs2) hx hb hts hi_X1 hi_X2 hi_X3 hi_X4 hi_X5 hi_X7 hown hK hP ho2 (exAt.up (ex_ne hx2 hfr) hx2) 2 (by decide) hw_1 rfl dX5_gatherByLying_15 ?_
        refine lv_iload_n hx hb dX5_gatherByLying_18 rfl (lv_at hl 3 rfl) ?_
        refine vp_callSi (va_Run.run (va_runV (As := [.int (zI (z3))]) (rest := [.int (zI (z2))]) ⟨hx, hb, hml, hown, hts⟩ (kX6_highestEnd l D k L (va_up f r (.inl (k 0, 24, .inl (fa_fill (glF b9 g1 g2) g i)))) gs2 r2 g2 hgs2 ((va_up_ne _ _ (ne_k hfgs2 hfr (by simp))).trans hfgs2) hr2 ((va_up_ne _ _ hrr2).trans hfr2) (z3) (by omega)) (cwV 1 hts gX5_gatherByLying_X6_highestEnd rfl rfl rfl (by decide +kernel) ⟨Nat.le_of_ble_eq_true rfl, Nat.le_of_ble_eq_true rfl⟩) (rc_preV hC hP (pl_recv hK hP hgs2 ((va_up_ne _ _ (ne_k hfgs2 hfr (by simp))).trans hfgs2) (ci := 5) (q := (RX6, TX6, 1)) rfl)) rfl rfl hl.1 rfl (lv_room (Nat.le_of_ble_eq_true rfl)) dX5_gatherByLying_19 ⟨Nat.zero_le _, Nat.zero_le _⟩)) (fun r2 hr2 => ?_)
        subst hr2
        have hlo9 := hiE_le (rowAt g2 z3) 24
        refine va_mmax hx hb (hml.trans hl.1.symm) hown hw_2 hw_3 hw_4 hw_5 (Nat.le_of_ble_eq_true rfl) (Nat.le_of_ble_eq_true rfl) (Nat.zero_le _) (Nat.zero_le _) dX5_gatherByLying_22 ?_
        refine zr_top (zI_max (by omega) (by omega)) ?_
        refine lv_istore_n (lv' := [(2, .int (zI (max z2 (((hiE (rowAt g2 z3) 24 : Nat) : Int))))), (0, .ref h), (1, .int (bI (b9))), (3, .int (zI (z3)))]) hx hb dX5_gatherByLying_25 rfl hl (by decide) rfl (fun ls hl => ?_)
        refine lv_iload_n hx hb dX5_gatherByLying_26 rfl (lv_at hl 0 rfl) ?_
        refine vp_callSi (va_Run.run (va_runSN (As := [.int (zI (max z2 (((hiE (rowAt g2 z3) 24 : Nat) : Int))))]) (rest := []) ⟨hx, hb, hml, hown, hts⟩ (kX9_upTo l D k L (va_up f r (.inl (k 0, 24, .inl (fa_fill (glF b9 g1 g2) g i)))) (max z2 (((hiE (rowAt g2 z3) 24 : Nat) : Int))) (by omega)) ⟨va_cnB 1 hts gX5_gatherByLying_X9_upTo_n79 rfl rfl rfl (hNW (.methodLinkNest RX5 79 yX9_upTo "Regionry") (by decide +kernel)) hw_6 (by decide +kernel) ⟨Nat.le_of_ble_eq_true rfl, Nat.le_of_ble_eq_true rfl⟩, hw_7, trivial⟩ (rc_preS hC hP) rfl rfl hl.1 rfl (lv_room (Nat.le_of_ble_eq_true rfl)) dX5_gatherByLying_27 ⟨Nat.zero_le _, Nat.zero_le _⟩)) (fun r3 hr3 => ?_)
        subst hr3
        refine lv_istore (lv' := [(4, .int (upM (max z2 (((hiE (rowAt g2 z3) 24 : Nat) : Int))))), (2, .int (zI (max z2 (((hiE (rowAt g2 z3) 24 : Nat) : Int))))), (0, .ref h), (1, .int (bI (b9))), (3, .int (zI (z3)))]) hx hb dX5_gatherByLying_30 hl (by decide) rfl (fun ls hl => ?_)
        refine lv_aload_n hx hb dX5_gatherByLying_32 rfl (lv_at hl 2 rfl) ?_
        refine pl_get (ci := 4) (v := .ref gs) (C := RX5) (T := TX5) (N := 7) hx hb hts hi_X5 hown hK hP hh ((va_up_ne _ _ (ne_k hfh hfr (by simp))).trans hfh) rfl 2 (by decide) hw_8 (u_same hw_9) rfl dX5_gatherByLying_33 ?_
        refine lv_iload_n hx hb dX5_gatherByLying_36 rfl (lv_at hl 4 rfl) ?_
        refine lv_aload_n hx hb dX5_gatherByLying_37 rfl (lv_at hl 2 rfl) ?_
        refine pl_get (ci := 4) (v := .ref o1) (C := RX5) (T := TX5) (N := 7) hx hb hts hi_X5 hown hK hP hh ((va_up_ne _ _ (ne_k hfh hfr (by simp))).trans hfh) rfl 5 (by decide) hw_10 (fun _ h9 => h9) rfl dX5_gatherByLying_38 ?_
        refine pl_getE (v := .ref gs1) hx hb hts hi_X1 hi_X2 hi_X3 hi_X4 hi_X5 hi_X7 hown hK hP ho1 (exAt.up (ex_ne hx1 hfr) hx1) 2 (by decide) hw_1 rfl dX5_gatherByLying_41 ?_
        refine lv_iload_n hx hb dX5_gatherByLying_44 rfl (lv_at hl 4 rfl) ?_
        refine vp_callSi (va_Run.run (va_runV (As := [.int (zI (z3))]) (rest := [.int (zI (z3)), .ref gs]) ⟨hx, hb, hml, hown, hts⟩ (kX6_row l D k L (va_up f r (.inl (k 0, 24, .inl (fa_fill (glF b9 g1 g2) g i)))) gs1 r1 g1 hgs1 ((va_up_ne _ _ (ne_k hfgs1 hfr (by simp))).trans hfgs1) hr1 ((va_up_ne _ _ hrr1).trans hfr1) (z3) (by omega)) (cwV 1 hts gX5_gatherByLying_X6_row rfl rfl rfl (by decide +kernel) ⟨Nat.le_of_ble_eq_true rfl, Nat.le_of_ble_eq_true rfl⟩) (rc_preV hC hP (pl_recv hK hP hgs1 ((va_up_ne _ _ (ne_k hfgs1 hfr (by simp))).trans hfgs1) (ci := 5) (q := (RX6, TX6, 1)) rfl)) rfl rfl hl.1 rfl (lv_room (Nat.le_of_ble_eq_true rfl)) dX5_gatherByLying_45 ⟨Nat.zero_le _, Nat.zero_le _⟩)) (fun r4 hr4 => ?_)
        subst hr4
        refine lv_iload_n hx hb dX5_gatherByLying_48 rfl (lv_at hl 3 rfl) ?_
        refine zr_ifb_eq (tgt := 57) hx hb dX5_gatherByLying_49 (by decide) (fun c5 => ?_) (fun c5 => ?_)
        · refine lv_iload hx hb dX5_gatherByLying_57 (lv_at hl 0 rfl) ?_
          refine zr_const hx hb dX5_gatherByLying_59 ?_
          refine lv_ixor hx hb dX5_gatherByLying_60 ?_
          refine lv_iand hx hb dX5_gatherByLying_61 ?_
          refine pc_callv (va_runV (As := [.int (zI (z3)), .int ((rowAt g1 z3) &&& ((upM (max z2 (((hiE (rowAt g2 z3) 24 : Nat) : Int)))) ^^^ (zI (-1))))]) (rest := []) ⟨hx, hb, hml, hown, hts⟩ (kX6_setRow l D k L (va_up f r (.inl (k 0, 24, .inl (fa_fill (glF b9 g1 g2) g i)))) gs r ((fa_fill (glF b9 g1 g2) g i)) hgs ((va_up_ne _ _ (ne_k hfgs hfr (by simp))).trans hfgs) hr (va_up_self _ _ _) (z3) (by omega) ((rowAt g1 z3) &&& ((upM (max z2 (((hiE (rowAt g2 z3) 24 : Nat) : Int)))) ^^^ (zI (-1)))) n0 _) (cwV 2 hts gX5_gatherByLying_X6_setRow rfl rfl rfl (by decide +kernel) ⟨Nat.le_of_ble_eq_true rfl, Nat.le_of_ble_eq_true rfl⟩) (pc_preV hC hP (Nat.le_trans hn9 hS.1) hD hAn (pl_recv hK hP hgs ((va_up_ne _ _ (ne_k hfgs hfr (by simp))).trans hfgs) (ci := 5) (q := (RX6, TX6, 1)) rfl)) rfl rfl hl.1 rfl (lv_room (Nat.le_of_ble_eq_true rfl)) dX5_gatherByLying_62 ⟨Nat.zero_le _, Nat.zero_le _⟩) hD hS hA (fun ur6 H locs hr6 hP hD hS hzr6 => ?_)
          subst hr6
          rw [bx_uu] at hP hD
          have hP : va_P D vwCl (va_pl L (va_up f r (.inl (k 0, 24, .inl (setR ((fa_fill (glF b9 g1 g2) g i)) z3 ((rowAt g1 z3) &&& ((upM (max z2 (((hiE (rowAt g2 z3) 24 : Nat) : Int)))) ^^^ (zI (-1))))))))) H := hP
          have hD : va_D A (va_pl L (va_up f r (.inl (k 0, 24, .inl (setR ((fa_fill (glF b9 g1 g2) g i)) z3 ((rowAt g1 z3) &&& ((upM (max z2 (((hiE (rowAt g2 z3) 24 : Nat) : Int)))) ^^^ (zI (-1))))))))) := hD
          refine zr_iinc (k := 4) (lv' := [(3, .int (zI (z3 + 1))), (4, .int (upM (max z2 (((hiE (rowAt g2 z3) 24 : Nat) : Int))))), (2, .int (zI (max z2 (((hiE (rowAt g2 z3) 24 : Nat) : Int))))), (0, .ref h), (1, .int (bI (b9)))]) hx hb dX5_gatherByLying_65 hl rfl (by decide) rfl (fun ls hl => ?_)
          refine lv_goto (tgt := 4) hx hb dX5_gatherByLying_68 (by decide) ?_
          have hg9 : ((setR ((fa_fill (glF b9 g1 g2) g i)) z3 ((rowAt g1 z3) &&& ((upM (max z2 (((hiE (rowAt g2 z3) 24 : Nat) : Int)))) ^^^ (zI (-1))))) : Nat → Int32) = fa_fill (glF b9 g1 g2) g (i + 1) := by exact fill_set (by omega) hz3 (gl_x hz3 (frF_s (by omega) hz3 hz2) (by first | rw [if_pos (by assumption)] | rw [if_neg (by simp [*])]))
          rw [hg9] at hP hD
          exact ih_4 (i + 1) (z3 + 1) (max z2 (((hiE (rowAt g2 z3) 24 : Nat) : Int))) (by omega) (by omega) (by omega) (frF_s (by omega) hz3 hz2) (by omega) _ _ hP hD hS _ (lv_sub hl [3, 4, 2, 0] rfl)
        · refine lv_iload hx hb dX5_gatherByLying_52 (lv_at hl 0 rfl) ?_
          refine lv_goto (tgt := 61) hx hb dX5_gatherByLying_54 (by decide) ?_
          refine lv_iand hx hb dX5_gatherByLying_61 ?_
          refine pc_callv (va_runV (As := [.int (zI (z3)), .int ((rowAt g1 z3) &&& (upM (max z2 (((hiE (rowAt g2 z3) 24 : Nat) : Int)))))]) (rest := []) ⟨hx, hb, hml, hown, hts⟩ (kX6_setRow l D k L (va_up f r (.inl (k 0, 24, .inl (fa_fill (glF b9 g1 g2) g i)))) gs r ((fa_fill (glF b9 g1 g2) g i)) hgs ((va_up_ne _ _ (ne_k hfgs hfr (by simp))).trans hfgs) hr (va_up_self _ _ _) (z3) (by omega) ((rowAt g1 z3) &&& (upM (max z2 (((hiE (rowAt g2 z3) 24 : Nat) : Int))))) n0 _) (cwV 2 hts gX5_gatherByLying_X6_setRow rfl rfl rfl (by decide +kernel) ⟨Nat.le_of_ble_eq_true rfl, Nat.le_of_ble_eq_true rfl⟩) (pc_preV hC hP (Nat.le_trans hn9 hS.1) hD hAn (pl_recv hK hP hgs ((va_up_ne _ _ (ne_k hfgs hfr (by simp))).trans hfgs) (ci := 5) (q := (RX6, TX6, 1)) rfl)) rfl rfl hl.1 rfl (lv_room (Nat.le_of_ble_eq_true rfl)) dX5_gatherByLying_62 ⟨Nat.zero_le _, Nat.zero_le _⟩) hD hS hA (fun ur7 H locs hr7 hP hD hS hzr7 => ?_)
          subst hr7
          rw [bx_uu] at hP hD
          have hP : va_P D vwCl (va_pl L (va_up f r (.inl (k 0, 24, .inl (setR ((fa_fill (glF b9 g1 g2) g i)) z3 ((rowAt g1 z3) &&& (upM (max z2 (((hiE (rowAt g2 z3) 24 : Nat) : Int)))))))))) H := hP
          have hD : va_D A (va_pl L (va_up f r (.inl (k 0, 24, .inl (setR ((fa_fill (glF b9 g1 g2) g i)) z3 ((rowAt g1 z3) &&& (upM (max z2 (((hiE (rowAt g2 z3) 24 : Nat) : Int)))))))))) := hD
          refine zr_iinc (k := 4) (lv' := [(3, .int (zI (z3 + 1))), (4, .int (upM (max z2 (((hiE (rowAt g2 z3) 24 : Nat) : Int))))), (2, .int (zI (max z2 (((hiE (rowAt g2 z3) 24 : Nat) : Int))))), (0, .ref h), (1, .int (bI (b9)))]) hx hb dX5_gatherByLying_65 hl rfl (by decide) rfl (fun ls hl => ?_)
          refine lv_goto (tgt := 4) hx hb dX5_gatherByLying_68 (by decide) ?_
          have hg9 : ((setR ((fa_fill (glF b9 g1 g2) g i)) z3 ((rowAt g1 z3) &&& (upM (max z2 (((hiE (rowAt g2 z3) 24 : Nat) : Int)))))) : Nat → Int32) = fa_fill (glF b9 g1 g2) g (i + 1) := by exact fill_set (by omega) hz3 (gl_x hz3 (frF_s (by omega) hz3 hz2) (by first | rw [if_pos (by assumption)] | rw [if_neg (by simp [*])]))
          rw [hg9] at hP hD
          exact ih_4 (i + 1) (z3 + 1) (max z2 (((hiE (rowAt g2 z3) 24 : Nat) : Int))) (by omega) (by omega) (by omega) (frF_s (by omega) hz3 hz2) (by omega) _ _ hP hD hS _ (lv_sub hl [3, 4, 2, 0] rfl)
  rw [← up_id (a := r) hfr] at hP hD
  have hg9 : (g : Nat → Int32) = fa_fill (glF b9 g1 g2) g (0) := by exact (fa_fill_0 _ _).symm
  rw [hg9] at hP hD
  exact cut_4 ((24 - (0) : Int).toNat + 1) (0) (0) (0) (by omega) (by omega) (by omega) (rfl) (by omega) _ _ hP hD hS _ (lv_sub hl [2, 3, 1, 0] rfl)

set_option maxHeartbeats 4000000 in
set_option maxRecDepth 100000 in
theorem kX5_gatherAhead (l : Launch) (D : va_G) (k : Nat → ClassId) (L : List Nat) (f : Nat → va_E) (h : Nat) (d : Int) (nd : Int32) (as : Nat) (op : Int) (hop : 0 ≤ op ∧ op ≤ 8) (o1 : Nat) (d1 : Int) (n1 : Int32) (gs1 as1 : Nat) (hd1 : -100 ≤ d1 ∧ d1 ≤ 100) (ho1 : o1 ∈ L) (hx1 : exAt f o1 (zI d1) n1 gs1 as1) (o2 : Nat) (d2 : Int) (n2 : Int32) (gs2 as2 : Nat) (hd2 : -100 ≤ d2 ∧ d2 ≤ 100) (ho2 : o2 ∈ L) (hx2 : exAt f o2 (zI d2) n2 gs2 as2) (gs r : Nat) (g : Nat → Int32) (hgs : gs ∈ L) (hfgs : f gs = .inr (5, [.ref r])) (hr : r ∈ L) (hfr : f r = .inl (k 0, 24, .inl g)) (r1 : Nat) (g1 : Nat → Int32) (hgs1 : gs1 ∈ L) (hfgs1 : f gs1 = .inr (5, [.ref r1])) (hr1 : r1 ∈ L) (hfr1 : f r1 = .inl (k 0, 24, .inl g1)) (hrr1 : r1 ≠ r) (r2 : Nat) (g2 : Nat → Int32) (hgs2 : gs2 ∈ L) (hfgs2 : f gs2 = .inr (5, [.ref r2])) (hr2 : r2 ∈ L) (hfr2 : f r2 = .inl (k 0, 24, .inl g2)) (hrr2 : r2 ≠ r) (hh : h ∈ L) (hfh : f h = .inr (4, [.int (zI d), .int nd, .ref gs, .ref as, .int (zI op), .ref o1, .ref o2])) (n0 sz : Nat) : Met l yX5_gatherAhead wsX5_gatherAhead ({ frames := 1, cells := 0, slots := 0, locals := 22 } : Room) (va_Pc [.ref h] (pPre D (tyL k) n0 (va_pl L f) sz)) (va_Qv (fun u => u = va_pl L (va_up f r (.inl (k 0, 24, .inl (fa_fill (gaF g1 g2) g 24))))) (pB D (va_pl L f) sz) (va_A (va_pl L f) sz)) 0 0 (va_A (va_pl L f) sz) := by
  refine Met.ofW (cc := cX5_gatherAhead) (maxL := 3) (ret := none) (by decide) rfl ?_
  intro p e s m args below meth c s₁ B hml hv
  obtain ⟨rfl, hsz, hn9, hP, hC, hD0⟩ := hv
  have hK := hC.1
  have hNW := hC.2.1
  have hx := B.exec
  have hb := B.bytes
  have hrt := B.returns
  have hts := atoms_spec (ws := wsX5_gatherAhead) B.pre
  have hown : s.vm.findClass RX5 = some m.cls := findClass_of_methodNamed B.named
  have hlocks := B.notSynchronized
  subst hsz
  obtain ⟨A, hAd⟩ : ∃ A, A = va_A (va_pl L f) s.heap.size := ⟨_, rfl⟩
  have hD := hD0.self (sz := s.heap.size)
  rw [← hAd] at hD
  have hA : ∀ q : Nat, s.heap.size ≤ q → A q := fun q h => by rw [hAd]; exact Or.inr h
  have hAn : ∀ q : Nat, A q → n0 ≤ q := fun q h => by
    rw [hAd] at h
    rcases h with ⟨k9, e9, hk9⟩ | h
    · exact hD0.2 k9 _ hk9
    · exact Nat.le_trans hn9 h
  have hS : va_S A s.heap s.heap [] := va_S.rf
  have hi_X5 : ∀ w ∈ u_ws RX5 TX5 7, w ∈ wsX5_gatherAhead := by decide +kernel
  have hi_X1 : ∀ w ∈ u_ws RX1 TX1 5, w ∈ wsX5_gatherAhead := by decide +kernel
  have hi_X2 : ∀ w ∈ u_ws RX2 TX2 5, w ∈ wsX5_gatherAhead := by decide +kernel
  have hi_X3 : ∀ w ∈ u_ws RX3 TX3 7, w ∈ wsX5_gatherAhead := by decide +kernel
  have hi_X4 : ∀ w ∈ u_ws RX4 TX4 6, w ∈ wsX5_gatherAhead := by decide +kernel
  have hi_X7 : ∀ w ∈ u_ws RX7 TX7 7, w ∈ wsX5_gatherAhead := by decide +kernel
  have hw_0 := hts (.fieldLink RX5 56 "Regionry$PairExpression" "gathered" "LRegionry$RegionSet;") (by decide +kernel)
  have hw_1 := hts (.sameField "Regionry$PairExpression" "Regionry$Expression" "gathered" "LRegionry$RegionSet;") (by decide +kernel)
  have hw_2 := hts (.fieldLink RX5 22 "Regionry$PairExpression" "one" "LRegionry$Expression;") (by decide +kernel)
  have hw_3 := hts (.fieldLink RX5 46 "Regionry$Expression" "gathered" "LRegionry$RegionSet;") (by decide +kernel)
  have hw_4 := hts (.initialized RX9) (by decide +kernel)
  have hw_5 := hts (.static yX9_upTo) (by decide +kernel)
  have hw_6 := hts (.fieldLink RX5 26 "Regionry$PairExpression" "other" "LRegionry$Expression;") (by decide +kernel)
  have hl := lv_entry ([.ref h]) (n := 3) (Nat.le_of_ble_eq_true rfl)
  rw [lg_entry_eq]
  generalize (lg_sl ([.ref h]) ++ List.replicate (3 - (lg_sl ([.ref h])).length) Slot.unset).toArray = ls at hl ⊢
  have hl : lv_has ls 3 [(0, .ref h)] := hl
  obtain ⟨Q, hQ⟩ : ∃ Q, Q = MQ below (va_Qv (fun u => u = va_pl L (va_up f r (.inl (k 0, 24, .inl (fa_fill (gaF g1 g2) g 24))))) (pB D (va_pl L f) s.heap.size) (va_A (va_pl L f) s.heap.size)) ([.ref h] : List Value).toArray s 0 0 (va_A (va_pl L f) s.heap.size) := ⟨_, rfl⟩
  rw [← hQ]
  have cut_29 : ∀ (n9 : Nat) (z1 : Int) (i : Nat) (z2 : Int), (-1 ≤ z1 ∧ z1 ≤ 23) → (lbI g2 24 = z1) → (i ≤ 24) → (z2 = i) → 24 - z2 < (n9 : Int) → ∀ (H : Heap) (locs : List Loc), va_P D vwCl (va_pl L (va_up f r (.inl (k 0, 24, .inl (fa_fill (gaF g1 g2) g i))))) H → va_D A (va_pl L (va_up f r (.inl (k 0, 24, .inl (fa_fill (gaF g1 g2) g i))))) → va_S A s.heap H locs → ∀ (ls : Array Slot), lv_has ls 3 [(0, .ref h), (1, .int (zI (z1))), (2, .int (zI (z2)))] → W p l e (headSpec wsX5_gatherAhead ({ frames := 1, cells := 0, slots := 0, locals := 22 } : Room)).room s m ([.ref h] : List Value).toArray below meth c H locs 0 0 Q (F0 m 29 ls []) := by
    intro n9
    induction n9 with
    | zero =>
      intro z1 i z2 hb1 hlv hi hz2 hfu
      exact absurd hfu (by omega)
    | succ n9 ih_29 =>
      intro z1 i z2 hb1 hlv hi hz2 hfu H locs hP hD hS ls hl
      refine lv_iload_n hx hb dX5_gatherAhead_29 rfl (lv_at hl 2 rfl) ?_
      refine zr_bipush hx hb dX5_gatherAhead_30 (by decide) ?_
      refine zr_icmp_ge (tgt := 65) hx hb dX5_gatherAhead_32 (by decide) (by omega) (by omega) (fun c1 => ?_) (fun c1 => ?_)
      · rw [hQ]
        exact pc_vret hx hb hrt hP (by rw [← hAd]; exact hD) (by rw [← hAd]; exact hS) (by obtain rfl : i = 24 := (by omega); rfl) dX5_gatherAhead_65 hlocks
      · refine lv_aload_n hx hb dX5_gatherAhead_35 rfl (lv_at hl 0 rfl) ?_
        refine pl_get (ci := 4) (v := .ref gs) (C := RX5) (T := TX5) (N := 7) hx hb hts hi_X5 hown hK hP hh ((va_up_ne _ _ (ne_k hfh hfr (by simp))).trans hfh) rfl 2 (by decide) hw_0 (u_same hw_1) rfl dX5_gatherAhead_36 ?_
        refine lv_iload_n hx hb dX5_gatherAhead_39 rfl (lv_at hl 2 rfl) ?_
        refine lv_aload_n hx hb dX5_gatherAhead_40 rfl (lv_at hl 0 rfl) ?_
        refine pl_get (ci := 4) (v := .ref o1) (C := RX5) (T := TX5) (N := 7) hx hb hts hi_X5 hown hK hP hh ((va_up_ne _ _ (ne_k hfh hfr (by simp))).trans hfh) rfl 5 (by decide) hw_2 (fun _ h9 => h9) rfl dX5_gatherAhead_41 ?_
        refine pl_getE (v := .ref gs1) hx hb hts hi_X1 hi_X2 hi_X3 hi_X4 hi_X5 hi_X7 hown hK hP ho1 (exAt.up (ex_ne hx1 hfr) hx1) 2 (by decide) hw_3 rfl dX5_gatherAhead_44 ?_
        refine lv_iload_n hx hb dX5_gatherAhead_47 rfl (lv_at hl 2 rfl) ?_
        refine vp_callSi (va_Run.run (va_runV (As := [.int (zI (z2))]) (rest := [.int (zI (z2)), .ref gs]) ⟨hx, hb, hml, hown, hts⟩ (kX6_row l D k L (va_up f r (.inl (k 0, 24, .inl (fa_fill (gaF g1 g2) g i)))) gs1 r1 g1 hgs1 ((va_up_ne _ _ (ne_k hfgs1 hfr (by simp))).trans hfgs1) hr1 ((va_up_ne _ _ hrr1).trans hfr1) (z2) (by omega)) (cwV 1 hts gX5_gatherAhead_X6_row rfl rfl rfl (by decide +kernel) ⟨Nat.le_of_ble_eq_true rfl, Nat.le_of_ble_eq_true rfl⟩) (rc_preV hC hP (pl_recv hK hP hgs1 ((va_up_ne _ _ (ne_k hfgs1 hfr (by simp))).trans hfgs1) (ci := 5) (q := (RX6, TX6, 1)) rfl)) rfl rfl hl.1 rfl (lv_room (Nat.le_of_ble_eq_true rfl)) dX5_gatherAhead_48 ⟨Nat.zero_le _, Nat.zero_le _⟩)) (fun r2 hr2 => ?_)
        subst hr2
        refine lv_iload_n hx hb dX5_gatherAhead_51 rfl (lv_at hl 1 rfl) ?_
        refine vp_callSi (va_Run.run (va_runSN (As := [.int (zI (z1))]) (rest := [.int (rowAt g1 z2), .int (zI (z2)), .ref gs]) ⟨hx, hb, hml, hown, hts⟩ (kX9_upTo l D k L (va_up f r (.inl (k 0, 24, .inl (fa_fill (gaF g1 g2) g i)))) (z1) (by omega)) ⟨va_cnB 1 hts gX5_gatherAhead_X9_upTo_n79 rfl rfl rfl (hNW (.methodLinkNest RX5 79 yX9_upTo "Regionry") (by decide +kernel)) hw_4 (by decide +kernel) ⟨Nat.le_of_ble_eq_true rfl, Nat.le_of_ble_eq_true rfl⟩, hw_5, trivial⟩ (rc_preS hC hP) rfl rfl hl.1 rfl (lv_room (Nat.le_of_ble_eq_true rfl)) dX5_gatherAhead_52 ⟨Nat.zero_le _, Nat.zero_le _⟩)) (fun r3 hr3 => ?_)
        subst hr3
        refine lv_iand hx hb dX5_gatherAhead_55 ?_
        refine pc_callv (va_runV (As := [.int (zI (z2)), .int ((rowAt g1 z2) &&& (upM z1))]) (rest := []) ⟨hx, hb, hml, hown, hts⟩ (kX6_setRow l D k L (va_up f r (.inl (k 0, 24, .inl (fa_fill (gaF g1 g2) g i)))) gs r ((fa_fill (gaF g1 g2) g i)) hgs ((va_up_ne _ _ (ne_k hfgs hfr (by simp))).trans hfgs) hr (va_up_self _ _ _) (z2) (by omega) ((rowAt g1 z2) &&& (upM z1)) n0 _) (cwV 2 hts gX5_gatherAhead_X6_setRow rfl rfl rfl (by decide +kernel) ⟨Nat.le_of_ble_eq_true rfl, Nat.le_of_ble_eq_true rfl⟩) (pc_preV hC hP (Nat.le_trans hn9 hS.1) hD hAn (pl_recv hK hP hgs ((va_up_ne _ _ (ne_k hfgs hfr (by simp))).trans hfgs) (ci := 5) (q := (RX6, TX6, 1)) rfl)) rfl rfl hl.1 rfl (lv_room (Nat.le_of_ble_eq_true rfl)) dX5_gatherAhead_56 ⟨Nat.zero_le _, Nat.zero_le _⟩) hD hS hA (fun ur4 H locs hr4 hP hD hS hzr4 => ?_)
        subst hr4
        rw [bx_uu] at hP hD
        have hP : va_P D vwCl (va_pl L (va_up f r (.inl (k 0, 24, .inl (setR ((fa_fill (gaF g1 g2) g i)) z2 ((rowAt g1 z2) &&& (upM z1))))))) H := hP
        have hD : va_D A (va_pl L (va_up f r (.inl (k 0, 24, .inl (setR ((fa_fill (gaF g1 g2) g i)) z2 ((rowAt g1 z2) &&& (upM z1))))))) := hD
        refine zr_iinc (k := 2) (lv' := [(2, .int (zI (z2 + 1))), (0, .ref h), (1, .int (zI (z1)))]) hx hb dX5_gatherAhead_59 hl rfl (by decide) rfl (fun ls hl => ?_)
        refine lv_goto (tgt := 29) hx hb dX5_gatherAhead_62 (by decide) ?_
        have hg9 : ((setR ((fa_fill (gaF g1 g2) g i)) z2 ((rowAt g1 z2) &&& (upM z1))) : Nat → Int32) = fa_fill (gaF g1 g2) g (i + 1) := by exact fill_set (by omega) hz2 (ga_x hz2 hlv)
        rw [hg9] at hP hD
        exact ih_29 (z1) (i + 1) (z2 + 1) (by omega) (hlv) (by omega) (by omega) (by omega) _ _ hP hD hS _ (lv_sub hl [1, 2, 0] rfl)
  refine zr_bipush hx hb dX5_gatherAhead_0 (by decide) ?_
  refine lv_istore_n (lv' := [(1, .int (zI (23))), (0, .ref h)]) hx hb dX5_gatherAhead_2 rfl hl (by decide) rfl (fun ls hl => ?_)
  have cut_3 : ∀ (n9 : Nat) (z1 : Int), (-1 ≤ z1 ∧ z1 ≤ 23) → (lbI g2 24 = lbI g2 (z1 + 1).toNat) → z1 + 1 < (n9 : Int) → ∀ (H : Heap) (locs : List Loc), va_P D vwCl (va_pl L f) H → va_D A (va_pl L f) → va_S A s.heap H locs → ∀ (ls : Array Slot), lv_has ls 3 [(0, .ref h), (1, .int (zI (z1)))] → W p l e (headSpec wsX5_gatherAhead ({ frames := 1, cells := 0, slots := 0, locals := 22 } : Room)).room s m ([.ref h] : List Value).toArray below meth c H locs 0 0 Q (F0 m 3 ls []) := by
    intro n9
    induction n9 with
    | zero =>
      intro z1 hz1 hlb hfu
      exact absurd hfu (by omega)
    | succ n9 ih_3 =>
      intro z1 hz1 hlb hfu H locs hP hD hS ls hl
      refine lv_iload_n hx hb dX5_gatherAhead_3 rfl (lv_at hl 1 rfl) ?_
      refine zr_if_lt (tgt := 27) hx hb dX5_gatherAhead_4 (by decide) (by omega) (fun c5 => ?_) (fun c5 => ?_)
      · refine zr_const hx hb dX5_gatherAhead_27 ?_
        refine lv_istore_n (lv' := [(2, .int (zI (0))), (0, .ref h), (1, .int (zI (z1)))]) hx hb dX5_gatherAhead_28 rfl hl (by decide) rfl (fun ls hl => ?_)
        rw [← up_id (a := r) hfr] at hP hD
        have hg9 : (g : Nat → Int32) = fa_fill (gaF g1 g2) g (0) := by exact (fa_fill_0 _ _).symm
        rw [hg9] at hP hD
        exact cut_29 ((24 - (0) : Int).toNat + 1) (z1) (0) (0) (by omega) (by first | exact lb_e0 (by omega) hlb | exact hlb.trans (lbI_t (by omega) (by assumption))) (by omega) (by omega) (by omega) _ _ hP hD hS _ (lv_sub hl [1, 2, 0] rfl)
      · refine lv_aload_n hx hb dX5_gatherAhead_7 rfl (lv_at hl 0 rfl) ?_
        refine pl_get (ci := 4) (v := .ref o2) (C := RX5) (T := TX5) (N := 7) hx hb hts hi_X5 hown hK hP hh hfh rfl 6 (by decide) hw_6 (fun _ h9 => h9) rfl dX5_gatherAhead_8 ?_
        refine pl_getE (v := .ref gs2) hx hb hts hi_X1 hi_X2 hi_X3 hi_X4 hi_X5 hi_X7 hown hK hP ho2 hx2 2 (by decide) hw_3 rfl dX5_gatherAhead_11 ?_
        refine lv_iload_n hx hb dX5_gatherAhead_14 rfl (lv_at hl 1 rfl) ?_
        refine vp_callSi (va_Run.run (va_runV (As := [.int (zI (z1))]) (rest := []) ⟨hx, hb, hml, hown, hts⟩ (kX6_row l D k L f gs2 r2 g2 hgs2 hfgs2 hr2 hfr2 (z1) (by omega)) (cwV 1 hts gX5_gatherAhead_X6_row rfl rfl rfl (by decide +kernel) ⟨Nat.le_of_ble_eq_true rfl, Nat.le_of_ble_eq_true rfl⟩) (rc_preV hC hP (pl_recv hK hP hgs2 hfgs2 (ci := 5) (q := (RX6, TX6, 1)) rfl)) rfl rfl hl.1 rfl (lv_room (Nat.le_of_ble_eq_true rfl)) dX5_gatherAhead_15 ⟨Nat.zero_le _, Nat.zero_le _⟩)) (fun r6 hr6 => ?_)
        subst hr6
        refine lv_if_ne (tgt := 27) hx hb dX5_gatherAhead_18 (by decide) (fun c7 => ?_) (fun c7 => ?_)
        · refine zr_const hx hb dX5_gatherAhead_27 ?_
          refine lv_istore_n (lv' := [(2, .int (zI (0))), (0, .ref h), (1, .int (zI (z1)))]) hx hb dX5_gatherAhead_28 rfl hl (by decide) rfl (fun ls hl => ?_)
          rw [← up_id (a := r) hfr] at hP hD
          have hg9 : (g : Nat → Int32) = fa_fill (gaF g1 g2) g (0) := by exact (fa_fill_0 _ _).symm
          rw [hg9] at hP hD
          exact cut_29 ((24 - (0) : Int).toNat + 1) (z1) (0) (0) (by omega) (by first | exact lb_e0 (by omega) hlb | exact hlb.trans (lbI_t (by omega) (by assumption))) (by omega) (by omega) (by omega) _ _ hP hD hS _ (lv_sub hl [1, 2, 0] rfl)
        · refine zr_iinc (k := 1) (lv' := [(1, .int (zI (z1 + (-1)))), (0, .ref h)]) hx hb dX5_gatherAhead_21 hl rfl (by decide) rfl (fun ls hl => ?_)
          refine lv_goto (tgt := 3) hx hb dX5_gatherAhead_24 (by decide) ?_
          exact ih_3 (z1 + (-1)) (by omega) (hlb.trans (lbI_f (by omega) (by assumption))) (by omega) _ _ hP hD hS _ (lv_sub hl [1, 0] rfl)
  exact cut_3 (((23) + 1 : Int).toNat + 1) (23) (by omega) (rfl) (by omega) _ _ hP hD hS _ (lv_sub hl [1, 0] rfl)

set_option maxHeartbeats 4000000 in
set_option maxRecDepth 100000 in
theorem kX5_gatherBehind (l : Launch) (D : va_G) (k : Nat → ClassId) (L : List Nat) (f : Nat → va_E) (h : Nat) (d : Int) (nd : Int32) (as : Nat) (op : Int) (hop : 0 ≤ op ∧ op ≤ 8) (o1 : Nat) (d1 : Int) (n1 : Int32) (gs1 as1 : Nat) (hd1 : -100 ≤ d1 ∧ d1 ≤ 100) (ho1 : o1 ∈ L) (hx1 : exAt f o1 (zI d1) n1 gs1 as1) (o2 : Nat) (d2 : Int) (n2 : Int32) (gs2 as2 : Nat) (hd2 : -100 ≤ d2 ∧ d2 ≤ 100) (ho2 : o2 ∈ L) (hx2 : exAt f o2 (zI d2) n2 gs2 as2) (gs r : Nat) (g : Nat → Int32) (hgs : gs ∈ L) (hfgs : f gs = .inr (5, [.ref r])) (hr : r ∈ L) (hfr : f r = .inl (k 0, 24, .inl g)) (r1 : Nat) (g1 : Nat → Int32) (hgs1 : gs1 ∈ L) (hfgs1 : f gs1 = .inr (5, [.ref r1])) (hr1 : r1 ∈ L) (hfr1 : f r1 = .inl (k 0, 24, .inl g1)) (hrr1 : r1 ≠ r) (r2 : Nat) (g2 : Nat → Int32) (hgs2 : gs2 ∈ L) (hfgs2 : f gs2 = .inr (5, [.ref r2])) (hr2 : r2 ∈ L) (hfr2 : f r2 = .inl (k 0, 24, .inl g2)) (hrr2 : r2 ≠ r) (hh : h ∈ L) (hfh : f h = .inr (4, [.int (zI d), .int nd, .ref gs, .ref as, .int (zI op), .ref o1, .ref o2])) (n0 sz : Nat) : Met l yX5_gatherBehind wsX5_gatherBehind ({ frames := 2, cells := 0, slots := 0, locals := 44 } : Room) (va_Pc [.ref h] (pPre D (tyL k) n0 (va_pl L f) sz)) (va_Qv (fun u => u = va_pl L (va_up f r (.inl (k 0, 24, .inl (fa_fill (gbF g1 g2) g 24))))) (pB D (va_pl L f) sz) (va_A (va_pl L f) sz)) 0 0 (va_A (va_pl L f) sz) := by
  refine Met.ofW (cc := cX5_gatherBehind) (maxL := 3) (ret := none) (by decide) rfl ?_
  intro p e s m args below meth c s₁ B hml hv
  obtain ⟨rfl, hsz, hn9, hP, hC, hD0⟩ := hv
  have hK := hC.1
  have hNW := hC.2.1
  have hx := B.exec
  have hb := B.bytes
  have hrt := B.returns
  have hts := atoms_spec (ws := wsX5_gatherBehind) B.pre
  have hown : s.vm.findClass RX5 = some m.cls := findClass_of_methodNamed B.named
  have hlocks := B.notSynchronized
  subst hsz
  obtain ⟨A, hAd⟩ : ∃ A, A = va_A (va_pl L f) s.heap.size := ⟨_, rfl⟩
  have hD := hD0.self (sz := s.heap.size)
  rw [← hAd] at hD
  have hA : ∀ q : Nat, s.heap.size ≤ q → A q := fun q h => by rw [hAd]; exact Or.inr h
  have hAn : ∀ q : Nat, A q → n0 ≤ q := fun q h => by
    rw [hAd] at h
    rcases h with ⟨k9, e9, hk9⟩ | h
    · exact hD0.2 k9 _ hk9
    · exact Nat.le_trans hn9 h
  have hS : va_S A s.heap s.heap [] := va_S.rf
  have hi_X5 : ∀ w ∈ u_ws RX5 TX5 7, w ∈ wsX5_gatherBehind := by decide +kernel
  have hi_X1 : ∀ w ∈ u_ws RX1 TX1 5, w ∈ wsX5_gatherBehind := by decide +kernel
  have hi_X2 : ∀ w ∈ u_ws RX2 TX2 5, w ∈ wsX5_gatherBehind := by decide +kernel
  have hi_X3 : ∀ w ∈ u_ws RX3 TX3 7, w ∈ wsX5_gatherBehind := by decide +kernel
  have hi_X4 : ∀ w ∈ u_ws RX4 TX4 6, w ∈ wsX5_gatherBehind := by decide +kernel
  have hi_X7 : ∀ w ∈ u_ws RX7 TX7 7, w ∈ wsX5_gatherBehind := by decide +kernel
  have hw_0 := hts (.fieldLink RX5 56 "Regionry$PairExpression" "gathered" "LRegionry$RegionSet;") (by decide +kernel)
  have hw_1 := hts (.sameField "Regionry$PairExpression" "Regionry$Expression" "gathered" "LRegionry$RegionSet;") (by decide +kernel)
  have hw_2 := hts (.fieldLink RX5 22 "Regionry$PairExpression" "one" "LRegionry$Expression;") (by decide +kernel)
  have hw_3 := hts (.fieldLink RX5 46 "Regionry$Expression" "gathered" "LRegionry$RegionSet;") (by decide +kernel)
  have hw_4 := hts (.fieldLink RX5 26 "Regionry$PairExpression" "other" "LRegionry$Expression;") (by decide +kernel)
  have hw_5 := hts (.methodLink RX5 64 Lib.Math.min.name) (by decide +kernel)
  have hw_6 := hts (.static Lib.Math.min.name) (by decide +kernel)
  have hw_7 := hts (.initialized "java/lang/Math") (by decide +kernel)
  have hw_8 := hts (.code Lib.Math.min.name Lib.Math.min.code 2 (some .int)) (by decide +kernel)
  have hl := lv_entry ([.ref h]) (n := 3) (Nat.le_of_ble_eq_true rfl)
  rw [lg_entry_eq]
  generalize (lg_sl ([.ref h]) ++ List.replicate (3 - (lg_sl ([.ref h])).length) Slot.unset).toArray = ls at hl ⊢
  have hl : lv_has ls 3 [(0, .ref h)] := hl
  obtain ⟨Q, hQ⟩ : ∃ Q, Q = MQ below (va_Qv (fun u => u = va_pl L (va_up f r (.inl (k 0, 24, .inl (fa_fill (gbF g1 g2) g 24))))) (pB D (va_pl L f) s.heap.size) (va_A (va_pl L f) s.heap.size)) ([.ref h] : List Value).toArray s 0 0 (va_A (va_pl L f) s.heap.size) := ⟨_, rfl⟩
  rw [← hQ]
  refine zr_bipush hx hb dX5_gatherBehind_0 (by decide) ?_
  refine lv_istore_n (lv' := [(1, .int (zI (25))), (0, .ref h)]) hx hb dX5_gatherBehind_2 rfl hl (by decide) rfl (fun ls hl => ?_)
  refine zr_const hx hb dX5_gatherBehind_3 ?_
  refine lv_istore_n (lv' := [(2, .int (zI (0))), (1, .int (zI (25))), (0, .ref h)]) hx hb dX5_gatherBehind_4 rfl hl (by decide) rfl (fun ls hl => ?_)
  have cut_5 : ∀ (n9 : Nat) (i : Nat) (z2 : Int) (z1 : Int), (i ≤ 24) → (z2 = i) → (0 ≤ z1 ∧ z1 ≤ 25) → (z1 = ((feN g2 i : Nat) : Int)) → 24 - z2 < (n9 : Int) → ∀ (H : Heap) (locs : List Loc), va_P D vwCl (va_pl L f) H → va_D A (va_pl L f) → va_S A s.heap H locs → ∀ (ls : Array Slot), lv_has ls 3 [(0, .ref h), (1, .int (zI (z1))), (2, .int (zI (z2)))] → W p l e (headSpec wsX5_gatherBehind ({ frames := 2, cells := 0, slots := 0, locals := 44 } : Room)).room s m ([.ref h] : List Value).toArray below meth c H locs 0 0 Q (F0 m 5 ls []) := by
    intro n9
    induction n9 with
    | zero =>
      intro i z2 z1 hi hz2 hb1 hz1 hfu
      exact absurd hfu (by omega)
    | succ n9 ih_5 =>
      intro i z2 z1 hi hz2 hb1 hz1 hfu H locs hP hD hS ls hl
      refine lv_iload_n hx hb dX5_gatherBehind_5 rfl (lv_at hl 2 rfl) ?_
      refine zr_bipush hx hb dX5_gatherBehind_6 (by decide) ?_
      refine zr_icmp_ge (tgt := 33) hx hb dX5_gatherBehind_8 (by decide) (by omega) (by omega) (fun c1 => ?_) (fun c1 => ?_)
      · obtain rfl : i = 24 := (by omega)
        refine zr_const hx hb dX5_gatherBehind_33 ?_
        refine lv_istore_n (lv' := [(2, .int (zI (0))), (0, .ref h), (1, .int (zI (z1)))]) hx hb dX5_gatherBehind_34 rfl hl (by decide) rfl (fun ls hl => ?_)
        have cut_35 : ∀ (n9 : Nat) (j : Nat) (z3 : Int), (j ≤ 24) → (z3 = j) → 24 - z3 < (n9 : Int) → ∀ (H : Heap) (locs : List Loc), va_P D vwCl (va_pl L (va_up f r (.inl (k 0, 24, .inl (fa_fill (gbF g1 g2) g j))))) H → va_D A (va_pl L (va_up f r (.inl (k 0, 24, .inl (fa_fill (gbF g1 g2) g j))))) → va_S A s.heap H locs → ∀ (ls : Array Slot), lv_has ls 3 [(0, .ref h), (1, .int (zI (z1))), (2, .int (zI (z3)))] → W p l e (headSpec wsX5_gatherBehind ({ frames := 2, cells := 0, slots := 0, locals := 44 } : Room)).room s m ([.ref h] : List Value).toArray below meth c H locs 0 0 Q (F0 m 35 ls []) := by
          intro n9
          induction n9 with
          | zero =>
            intro j z3 hj hz3 hfu
            exact absurd hfu (by omega)
          | succ n9 ih_35 =>
            intro j z3 hj hz3 hfu H locs hP hD hS ls hl
            refine lv_iload_n hx hb dX5_gatherBehind_35 rfl (lv_at hl 2 rfl) ?_
            refine zr_bipush hx hb dX5_gatherBehind_36 (by decide) ?_
            refine zr_icmp_ge (tgt := 75) hx hb dX5_gatherBehind_38 (by decide) (by omega) (by omega) (fun c2 => ?_) (fun c2 => ?_)
            · rw [hQ]
              exact pc_vret hx hb hrt hP (by rw [← hAd]; exact hD) (by rw [← hAd]; exact hS) (by obtain rfl : j = 24 := (by omega); rfl) dX5_gatherBehind_75 hlocks
            · refine lv_aload_n hx hb dX5_gatherBehind_41 rfl (lv_at hl 0 rfl) ?_
              refine pl_get (ci := 4) (v := .ref gs) (C := RX5) (T := TX5) (N := 7) hx hb hts hi_X5 hown hK hP hh ((va_up_ne _ _ (ne_k hfh hfr (by simp))).trans hfh) rfl 2 (by decide) hw_0 (u_same hw_1) rfl dX5_gatherBehind_42 ?_
              refine lv_iload_n hx hb dX5_gatherBehind_45 rfl (lv_at hl 2 rfl) ?_
              refine lv_iload_n hx hb dX5_gatherBehind_46 rfl (lv_at hl 2 rfl) ?_
              refine lv_iload_n hx hb dX5_gatherBehind_47 rfl (lv_at hl 1 rfl) ?_
              refine zr_icmp_lt (tgt := 65) hx hb dX5_gatherBehind_48 (by decide) (by omega) (by omega) (fun c3 => ?_) (fun c3 => ?_)
              · refine zr_const hx hb dX5_gatherBehind_65 ?_
                refine pc_callv (va_runV (As := [.int (zI (z3)), .int (zI (0))]) (rest := []) ⟨hx, hb, hml, hown, hts⟩ (kX6_setRow l D k L (va_up f r (.inl (k 0, 24, .inl (fa_fill (gbF g1 g2) g j)))) gs r ((fa_fill (gbF g1 g2) g j)) hgs ((va_up_ne _ _ (ne_k hfgs hfr (by simp))).trans hfgs) hr (va_up_self _ _ _) (z3) (by omega) (zI (0)) n0 _) (cwV 2 hts gX5_gatherBehind_X6_setRow rfl rfl rfl (by decide +kernel) ⟨Nat.le_of_ble_eq_true rfl, Nat.le_of_ble_eq_true rfl⟩) (pc_preV hC hP (Nat.le_trans hn9 hS.1) hD hAn (pl_recv hK hP hgs ((va_up_ne _ _ (ne_k hfgs hfr (by simp))).trans hfgs) (ci := 5) (q := (RX6, TX6, 1)) rfl)) rfl rfl hl.1 rfl (lv_room (Nat.le_of_ble_eq_true rfl)) dX5_gatherBehind_66 ⟨Nat.zero_le _, Nat.zero_le _⟩) hD hS hA (fun ur4 H locs hr4 hP hD hS hzr4 => ?_)
                subst hr4
                rw [bx_uu] at hP hD
                have hP : va_P D vwCl (va_pl L (va_up f r (.inl (k 0, 24, .inl (setR ((fa_fill (gbF g1 g2) g j)) z3 (zI (0))))))) H := hP
                have hD : va_D A (va_pl L (va_up f r (.inl (k 0, 24, .inl (setR ((fa_fill (gbF g1 g2) g j)) z3 (zI (0))))))) := hD
                refine zr_iinc (k := 2) (lv' := [(2, .int (zI (z3 + 1))), (0, .ref h), (1, .int (zI (z1)))]) hx hb dX5_gatherBehind_69 hl rfl (by decide) rfl (fun ls hl => ?_)
                refine lv_goto (tgt := 35) hx hb dX5_gatherBehind_72 (by decide) ?_
                have hg9 : ((setR ((fa_fill (gbF g1 g2) g j)) z3 (zI (0))) : Nat → Int32) = fa_fill (gbF g1 g2) g (j + 1) := by first | exact fill_set (by omega) hz3 (gb_1 hz3 hz1 (by assumption)) | exact fill_set (by omega) hz3 (gb_0 hz3 hz1 (by assumption))
                rw [hg9] at hP hD
                exact ih_35 (j + 1) (z3 + 1) (by omega) (by omega) (by omega) _ _ hP hD hS _ (lv_sub hl [1, 2, 0] rfl)
              · refine lv_aload_n hx hb dX5_gatherBehind_51 rfl (lv_at hl 0 rfl) ?_
                refine pl_get (ci := 4) (v := .ref o1) (C := RX5) (T := TX5) (N := 7) hx hb hts hi_X5 hown hK hP hh ((va_up_ne _ _ (ne_k hfh hfr (by simp))).trans hfh) rfl 5 (by decide) hw_2 (fun _ h9 => h9) rfl dX5_gatherBehind_52 ?_
                refine pl_getE (v := .ref gs1) hx hb hts hi_X1 hi_X2 hi_X3 hi_X4 hi_X5 hi_X7 hown hK hP ho1 (exAt.up (ex_ne hx1 hfr) hx1) 2 (by decide) hw_3 rfl dX5_gatherBehind_55 ?_
                refine lv_iload_n hx hb dX5_gatherBehind_58 rfl (lv_at hl 2 rfl) ?_
                refine vp_callSi (va_Run.run (va_runV (As := [.int (zI (z3))]) (rest := [.int (zI (z3)), .ref gs]) ⟨hx, hb, hml, hown, hts⟩ (kX6_row l D k L (va_up f r (.inl (k 0, 24, .inl (fa_fill (gbF g1 g2) g j)))) gs1 r1 g1 hgs1 ((va_up_ne _ _ (ne_k hfgs1 hfr (by simp))).trans hfgs1) hr1 ((va_up_ne _ _ hrr1).trans hfr1) (z3) (by omega)) (cwV 1 hts gX5_gatherBehind_X6_row rfl rfl rfl (by decide +kernel) ⟨Nat.le_of_ble_eq_true rfl, Nat.le_of_ble_eq_true rfl⟩) (rc_preV hC hP (pl_recv hK hP hgs1 ((va_up_ne _ _ (ne_k hfgs1 hfr (by simp))).trans hfgs1) (ci := 5) (q := (RX6, TX6, 1)) rfl)) rfl rfl hl.1 rfl (lv_room (Nat.le_of_ble_eq_true rfl)) dX5_gatherBehind_59 ⟨Nat.zero_le _, Nat.zero_le _⟩)) (fun r5 hr5 => ?_)
                subst hr5
                refine lv_goto (tgt := 66) hx hb dX5_gatherBehind_62 (by decide) ?_
                refine pc_callv (va_runV (As := [.int (zI (z3)), .int (rowAt g1 z3)]) (rest := []) ⟨hx, hb, hml, hown, hts⟩ (kX6_setRow l D k L (va_up f r (.inl (k 0, 24, .inl (fa_fill (gbF g1 g2) g j)))) gs r ((fa_fill (gbF g1 g2) g j)) hgs ((va_up_ne _ _ (ne_k hfgs hfr (by simp))).trans hfgs) hr (va_up_self _ _ _) (z3) (by omega) (rowAt g1 z3) n0 _) (cwV 2 hts gX5_gatherBehind_X6_setRow rfl rfl rfl (by decide +kernel) ⟨Nat.le_of_ble_eq_true rfl, Nat.le_of_ble_eq_true rfl⟩) (pc_preV hC hP (Nat.le_trans hn9 hS.1) hD hAn (pl_recv hK hP hgs ((va_up_ne _ _ (ne_k hfgs hfr (by simp))).trans hfgs) (ci := 5) (q := (RX6, TX6, 1)) rfl)) rfl rfl hl.1 rfl (lv_room (Nat.le_of_ble_eq_true rfl)) dX5_gatherBehind_66 ⟨Nat.zero_le _, Nat.zero_le _⟩) hD hS hA (fun ur6 H locs hr6 hP hD hS hzr6 => ?_)
                subst hr6
                rw [bx_uu] at hP hD
                have hP : va_P D vwCl (va_pl L (va_up f r (.inl (k 0, 24, .inl (setR ((fa_fill (gbF g1 g2) g j)) z3 (rowAt g1 z3)))))) H := hP
                have hD : va_D A (va_pl L (va_up f r (.inl (k 0, 24, .inl (setR ((fa_fill (gbF g1 g2) g j)) z3 (rowAt g1 z3)))))) := hD
                refine zr_iinc (k := 2) (lv' := [(2, .int (zI (z3 + 1))), (0, .ref h), (1, .int (zI (z1)))]) hx hb dX5_gatherBehind_69 hl rfl (by decide) rfl (fun ls hl => ?_)
                refine lv_goto (tgt := 35) hx hb dX5_gatherBehind_72 (by decide) ?_
                have hg9 : ((setR ((fa_fill (gbF g1 g2) g j)) z3 (rowAt g1 z3)) : Nat → Int32) = fa_fill (gbF g1 g2) g (j + 1) := by first | exact fill_set (by omega) hz3 (gb_1 hz3 hz1 (by assumption)) | exact fill_set (by omega) hz3 (gb_0 hz3 hz1 (by assumption))
                rw [hg9] at hP hD
                exact ih_35 (j + 1) (z3 + 1) (by omega) (by omega) (by omega) _ _ hP hD hS _ (lv_sub hl [1, 2, 0] rfl)
        rw [← up_id (a := r) hfr] at hP hD
        have hg9 : (g : Nat → Int32) = fa_fill (gbF g1 g2) g (0) := by exact (fa_fill_0 _ _).symm
        rw [hg9] at hP hD
        exact cut_35 ((24 - (0) : Int).toNat + 1) (0) (0) (by omega) (by omega) (by omega) _ _ hP hD hS _ (lv_sub hl [1, 2, 0] rfl)
      · refine lv_iload_n hx hb dX5_gatherBehind_11 rfl (lv_at hl 1 rfl) ?_
        refine lv_aload_n hx hb dX5_gatherBehind_12 rfl (lv_at hl 0 rfl) ?_
        refine pl_get (ci := 4) (v := .ref o2) (C := RX5) (T := TX5) (N := 7) hx hb hts hi_X5 hown hK hP hh hfh rfl 6 (by decide) hw_4 (fun _ h9 => h9) rfl dX5_gatherBehind_13 ?_
        refine pl_getE (v := .ref gs2) hx hb hts hi_X1 hi_X2 hi_X3 hi_X4 hi_X5 hi_X7 hown hK hP ho2 hx2 2 (by decide) hw_3 rfl dX5_gatherBehind_16 ?_
        refine lv_iload_n hx hb dX5_gatherBehind_19 rfl (lv_at hl 2 rfl) ?_
        refine vp_callSi (va_Run.run (va_runV (As := [.int (zI (z2))]) (rest := [.int (zI (z1))]) ⟨hx, hb, hml, hown, hts⟩ (kX6_lowestEnd l D k L f gs2 r2 g2 hgs2 hfgs2 hr2 hfr2 (z2) (by omega)) (cwV 1 hts gX5_gatherBehind_X6_lowestEnd rfl rfl rfl (by decide +kernel) ⟨Nat.le_of_ble_eq_true rfl, Nat.le_of_ble_eq_true rfl⟩) (rc_preV hC hP (pl_recv hK hP hgs2 hfgs2 (ci := 5) (q := (RX6, TX6, 1)) rfl)) rfl rfl hl.1 rfl (lv_room (Nat.le_of_ble_eq_true rfl)) dX5_gatherBehind_20 ⟨Nat.zero_le _, Nat.zero_le _⟩)) (fun r7 hr7 => ?_)
        subst hr7
        have hlo9 := lowE_le (rowAt g2 z2) z2
        refine va_mmin hx hb (hml.trans hl.1.symm) hown hw_5 hw_6 hw_7 hw_8 (Nat.le_of_ble_eq_true rfl) (Nat.le_of_ble_eq_true rfl) (Nat.zero_le _) (Nat.zero_le _) dX5_gatherBehind_23 ?_
        refine zr_top (zI_min (by omega) (by omega)) ?_
        refine lv_istore_n (lv' := [(1, .int (zI (min z1 (((lowE (rowAt g2 z2) z2 : Nat) : Int))))), (0, .ref h), (2, .int (zI (z2)))]) hx hb dX5_gatherBehind_26 rfl hl (by decide) rfl (fun ls hl => ?_)
        refine zr_iinc (k := 2) (lv' := [(2, .int (zI (z2 + 1))), (1, .int (zI (min z1 (((lowE (rowAt g2 z2) z2 : Nat) : Int))))), (0, .ref h)]) hx hb dX5_gatherBehind_27 hl rfl (by decide) rfl (fun ls hl => ?_)
        refine lv_goto (tgt := 5) hx hb dX5_gatherBehind_30 (by decide) ?_
        exact ih_5 (i + 1) (z2 + 1) (min z1 (((lowE (rowAt g2 z2) z2 : Nat) : Int))) (by omega) (by omega) (by omega) (feN_s (by omega) hz2 hz1) (by omega) _ _ hP hD hS _ (lv_sub hl [2, 1, 0] rfl)
  exact cut_5 ((24 - (0) : Int).toNat + 1) (0) (0) (25) (by omega) (by omega) (by omega) (rfl) (by omega) _ _ hP hD hS _ (lv_sub hl [2, 1, 0] rfl)

set_option maxHeartbeats 4000000 in
set_option maxRecDepth 100000 in
theorem kX5_gather (l : Launch) (D : va_G) (k : Nat → ClassId) (L : List Nat) (f : Nat → va_E) (h : Nat) (d : Int) (nd : Int32) (as : Nat) (op : Int) (hop : 0 ≤ op ∧ op ≤ 8) (o1 : Nat) (d1 : Int) (n1 : Int32) (gs1 as1 : Nat) (hd1 : -100 ≤ d1 ∧ d1 ≤ 100) (ho1 : o1 ∈ L) (hx1 : exAt f o1 (zI d1) n1 gs1 as1) (o2 : Nat) (d2 : Int) (n2 : Int32) (gs2 as2 : Nat) (hd2 : -100 ≤ d2 ∧ d2 ≤ 100) (ho2 : o2 ∈ L) (hx2 : exAt f o2 (zI d2) n2 gs2 as2) (gs r : Nat) (g : Nat → Int32) (hgs : gs ∈ L) (hfgs : f gs = .inr (5, [.ref r])) (hr : r ∈ L) (hfr : f r = .inl (k 0, 24, .inl g)) (r1 : Nat) (g1 : Nat → Int32) (hgs1 : gs1 ∈ L) (hfgs1 : f gs1 = .inr (5, [.ref r1])) (hr1 : r1 ∈ L) (hfr1 : f r1 = .inl (k 0, 24, .inl g1)) (hrr1 : r1 ≠ r) (r2 : Nat) (g2 : Nat → Int32) (hgs2 : gs2 ∈ L) (hfgs2 : f gs2 = .inr (5, [.ref r2])) (hr2 : r2 ∈ L) (hfr2 : f r2 = .inl (k 0, 24, .inl g2)) (hrr2 : r2 ≠ r) (hh : h ∈ L) (hfh : f h = .inr (4, [.int (zI d), .int nd, .ref gs, .ref as, .int (zI op), .ref o1, .ref o2])) (tx : Nat) (n0 sz : Nat) : Met l yX5_gather wsX5_gather ({ frames := 3, cells := 0, slots := 0, locals := 68 } : Room) (va_Pc [.ref h, .ref tx] (pPre D (tyL k) n0 (va_pl L f) sz)) (va_Qv (fun u => u = va_pl L (va_up f r (.inl (k 0, 24, .inl (fa_fill (paF op g1 g2) g 24))))) (pB D (va_pl L f) sz) (va_A (va_pl L f) sz)) 0 0 (va_A (va_pl L f) sz) := by
  refine Met.ofW (cc := cX5_gather) (maxL := 2) (ret := none) (by decide) rfl ?_
  intro p e s m args below meth c s₁ B hml hv
  obtain ⟨rfl, hsz, hn9, hP, hC, hD0⟩ := hv
  have hK := hC.1
  have hNW := hC.2.1
  have hx := B.exec
  have hb := B.bytes
  have hrt := B.returns
  have hts := atoms_spec (ws := wsX5_gather) B.pre
  have hown : s.vm.findClass RX5 = some m.cls := findClass_of_methodNamed B.named
  have hlocks := B.notSynchronized
  subst hsz
  obtain ⟨A, hAd⟩ : ∃ A, A = va_A (va_pl L f) s.heap.size := ⟨_, rfl⟩
  have hD := hD0.self (sz := s.heap.size)
  rw [← hAd] at hD
  have hA : ∀ q : Nat, s.heap.size ≤ q → A q := fun q h => by rw [hAd]; exact Or.inr h
  have hAn : ∀ q : Nat, A q → n0 ≤ q := fun q h => by
    rw [hAd] at h
    rcases h with ⟨k9, e9, hk9⟩ | h
    · exact hD0.2 k9 _ hk9
    · exact Nat.le_trans hn9 h
  have hS : va_S A s.heap s.heap [] := va_S.rf
  have hi_X5 : ∀ w ∈ u_ws RX5 TX5 7, w ∈ wsX5_gather := by decide +kernel
  have hw_0 := hts (.fieldLink RX5 17 "Regionry$PairExpression" "operation" "I") (by decide +kernel)
  have hl := lv_entry ([.ref h, .ref tx]) (n := 2) (Nat.le_of_ble_eq_true rfl)
  rw [lg_entry_eq]
  generalize (lg_sl ([.ref h, .ref tx]) ++ List.replicate (2 - (lg_sl ([.ref h, .ref tx])).length) Slot.unset).toArray = ls at hl ⊢
  have hl : lv_has ls 2 [(0, .ref h), (1, .ref tx)] := hl
  obtain ⟨Q, hQ⟩ : ∃ Q, Q = MQ below (va_Qv (fun u => u = va_pl L (va_up f r (.inl (k 0, 24, .inl (fa_fill (paF op g1 g2) g 24))))) (pB D (va_pl L f) s.heap.size) (va_A (va_pl L f) s.heap.size)) ([.ref h, .ref tx] : List Value).toArray s 0 0 (va_A (va_pl L f) s.heap.size) := ⟨_, rfl⟩
  rw [← hQ]
  refine lv_aload_n hx hb dX5_gather_0 rfl (lv_at hl 0 rfl) ?_
  refine pl_get (ci := 4) (v := .int (zI (op))) (C := RX5) (T := TX5) (N := 7) hx hb hts hi_X5 hown hK hP hh hfh rfl 4 (by decide) hw_0 (fun _ h9 => h9) rfl dX5_gather_1 ?_
  rcases (show op = 3 ∨ op = 4 ∨ op = 5 ∨ op = 6 ∨ op = 7 ∨ op = 8 ∨ (op < 3 ∨ 8 < op) by omega) with q1 | q1 | q1 | q1 | q1 | q1 | q1
  · refine lv_tableIn (off := 40) (tgt := 44) hx hb dX5_gather_4 (by rw [zI_toInt (by omega), q1]; decide) (by rw [zI_toInt (by omega), q1]; decide) (by rw [zI_toInt (by omega), q1]; rfl) (by decide) ?_
    refine lv_aload_n hx hb dX5_gather_44 rfl (lv_at hl 0 rfl) ?_
    refine zr_const hx hb dX5_gather_45 ?_
    refine zr_top (y := bI true) (by decide) ?_
    refine pc_callv (va_runV (As := [.int (bI (true))]) (rest := []) ⟨hx, hb, hml, hown, hts⟩ (kX5_gatherByHolding l D k L f h d nd as op hop o1 d1 n1 gs1 as1 hd1 ho1 hx1 o2 d2 n2 gs2 as2 hd2 ho2 hx2 gs r g hgs hfgs hr hfr r1 g1 hgs1 hfgs1 hr1 hfr1 hrr1 r2 g2 hgs2 hfgs2 hr2 hfr2 hrr2 hh hfh true n0 _) (cwV 1 hts gX5_gather_X5_gatherByHolding rfl rfl rfl (by decide +kernel) ⟨Nat.le_of_ble_eq_true rfl, Nat.le_of_ble_eq_true rfl⟩) (pc_preV hC hP (Nat.le_trans hn9 hS.1) hD hAn (pl_recv hK hP hh hfh (ci := 4) (q := (RX5, TX5, 7)) rfl)) rfl rfl hl.1 rfl (lv_room (Nat.le_of_ble_eq_true rfl)) dX5_gather_46 ⟨Nat.zero_le _, Nat.zero_le _⟩) hD hS hA (fun ur2 H locs hr2 hP hD hS hzr2 => ?_)
    subst hr2
    have hP : va_P D vwCl (va_pl L (va_up f r (.inl (k 0, 24, .inl (fa_fill (ghF true g1 g2) g 24))))) H := hP
    have hD : va_D A (va_pl L (va_up f r (.inl (k 0, 24, .inl (fa_fill (ghF true g1 g2) g 24))))) := hD
    refine lv_goto (tgt := 94) hx hb dX5_gather_49 (by decide) ?_
    rw [hQ]
    exact pc_vret hx hb hrt hP (by rw [← hAd]; exact hD) (by rw [← hAd]; exact hS) (by show _ = _; first | rw [pf3 (by assumption)] | rw [pf4 (by assumption)] | rw [pf5 (by assumption)] | rw [pf6 (by assumption)] | rw [pf7 (by assumption)] | rw [pf8 (by assumption)] | rw [pf0 (by assumption)]) dX5_gather_94 hlocks
  · refine lv_tableIn (off := 48) (tgt := 52) hx hb dX5_gather_4 (by rw [zI_toInt (by omega), q1]; decide) (by rw [zI_toInt (by omega), q1]; decide) (by rw [zI_toInt (by omega), q1]; rfl) (by decide) ?_
    refine lv_aload_n hx hb dX5_gather_52 rfl (lv_at hl 0 rfl) ?_
    refine zr_const hx hb dX5_gather_53 ?_
    refine zr_top (y := bI false) (by decide) ?_
    refine pc_callv (va_runV (As := [.int (bI (false))]) (rest := []) ⟨hx, hb, hml, hown, hts⟩ (kX5_gatherByHolding l D k L f h d nd as op hop o1 d1 n1 gs1 as1 hd1 ho1 hx1 o2 d2 n2 gs2 as2 hd2 ho2 hx2 gs r g hgs hfgs hr hfr r1 g1 hgs1 hfgs1 hr1 hfr1 hrr1 r2 g2 hgs2 hfgs2 hr2 hfr2 hrr2 hh hfh false n0 _) (cwV 1 hts gX5_gather_X5_gatherByHolding rfl rfl rfl (by decide +kernel) ⟨Nat.le_of_ble_eq_true rfl, Nat.le_of_ble_eq_true rfl⟩) (pc_preV hC hP (Nat.le_trans hn9 hS.1) hD hAn (pl_recv hK hP hh hfh (ci := 4) (q := (RX5, TX5, 7)) rfl)) rfl rfl hl.1 rfl (lv_room (Nat.le_of_ble_eq_true rfl)) dX5_gather_54 ⟨Nat.zero_le _, Nat.zero_le _⟩) hD hS hA (fun ur3 H locs hr3 hP hD hS hzr3 => ?_)
    subst hr3
    have hP : va_P D vwCl (va_pl L (va_up f r (.inl (k 0, 24, .inl (fa_fill (ghF false g1 g2) g 24))))) H := hP
    have hD : va_D A (va_pl L (va_up f r (.inl (k 0, 24, .inl (fa_fill (ghF false g1 g2) g 24))))) := hD
    refine lv_goto (tgt := 94) hx hb dX5_gather_57 (by decide) ?_
    rw [hQ]
    exact pc_vret hx hb hrt hP (by rw [← hAd]; exact hD) (by rw [← hAd]; exact hS) (by show _ = _; first | rw [pf3 (by assumption)] | rw [pf4 (by assumption)] | rw [pf5 (by assumption)] | rw [pf6 (by assumption)] | rw [pf7 (by assumption)] | rw [pf8 (by assumption)] | rw [pf0 (by assumption)]) dX5_gather_94 hlocks
  · refine lv_tableIn (off := 56) (tgt := 60) hx hb dX5_gather_4 (by rw [zI_toInt (by omega), q1]; decide) (by rw [zI_toInt (by omega), q1]; decide) (by rw [zI_toInt (by omega), q1]; rfl) (by decide) ?_
    refine lv_aload_n hx hb dX5_gather_60 rfl (lv_at hl 0 rfl) ?_
    refine zr_const hx hb dX5_gather_61 ?_
    refine zr_top (y := bI true) (by decide) ?_
    refine pc_callv (va_runV (As := [.int (bI (true))]) (rest := []) ⟨hx, hb, hml, hown, hts⟩ (kX5_gatherByLying l D k L f h d nd as op hop o1 d1 n1 gs1 as1 hd1 ho1 hx1 o2 d2 n2 gs2 as2 hd2 ho2 hx2 gs r g hgs hfgs hr hfr r1 g1 hgs1 hfgs1 hr1 hfr1 hrr1 r2 g2 hgs2 hfgs2 hr2 hfr2 hrr2 hh hfh true n0 _) (cwV 1 hts gX5_gather_X5_gatherByLying rfl rfl rfl (by decide +kernel) ⟨Nat.le_of_ble_eq_true rfl, Nat.le_of_ble_eq_true rfl⟩) (pc_preV hC hP (Nat.le_trans hn9 hS.1) hD hAn (pl_recv hK hP hh hfh (ci := 4) (q := (RX5, TX5, 7)) rfl)) rfl rfl hl.1 rfl (lv_room (Nat.le_of_ble_eq_true rfl)) dX5_gather_62 ⟨Nat.zero_le _, Nat.zero_le _⟩) hD hS hA (fun ur4 H locs hr4 hP hD hS hzr4 => ?_)
    subst hr4
    have hP : va_P D vwCl (va_pl L (va_up f r (.inl (k 0, 24, .inl (fa_fill (glF true g1 g2) g 24))))) H := hP
    have hD : va_D A (va_pl L (va_up f r (.inl (k 0, 24, .inl (fa_fill (glF true g1 g2) g 24))))) := hD
    refine lv_goto (tgt := 94) hx hb dX5_gather_65 (by decide) ?_
    rw [hQ]
    exact pc_vret hx hb hrt hP (by rw [← hAd]; exact hD) (by rw [← hAd]; exact hS) (by show _ = _; first | rw [pf3 (by assumption)] | rw [pf4 (by assumption)] | rw [pf5 (by assumption)] | rw [pf6 (by assumption)] | rw [pf7 (by assumption)] | rw [pf8 (by assumption)] | rw [pf0 (by assumption)]) dX5_gather_94 hlocks
  · refine lv_tableIn (off := 64) (tgt := 68) hx hb dX5_gather_4 (by rw [zI_toInt (by omega), q1]; decide) (by rw [zI_toInt (by omega), q1]; decide) (by rw [zI_toInt (by omega), q1]; rfl) (by decide) ?_
    refine lv_aload_n hx hb dX5_gather_68 rfl (lv_at hl 0 rfl) ?_
    refine zr_const hx hb dX5_gather_69 ?_
    refine zr_top (y := bI false) (by decide) ?_
    refine pc_callv (va_runV (As := [.int (bI (false))]) (rest := []) ⟨hx, hb, hml, hown, hts⟩ (kX5_gatherByLying l D k L f h d nd as op hop o1 d1 n1 gs1 as1 hd1 ho1 hx1 o2 d2 n2 gs2 as2 hd2 ho2 hx2 gs r g hgs hfgs hr hfr r1 g1 hgs1 hfgs1 hr1 hfr1 hrr1 r2 g2 hgs2 hfgs2 hr2 hfr2 hrr2 hh hfh false n0 _) (cwV 1 hts gX5_gather_X5_gatherByLying rfl rfl rfl (by decide +kernel) ⟨Nat.le_of_ble_eq_true rfl, Nat.le_of_ble_eq_true rfl⟩) (pc_preV hC hP (Nat.le_trans hn9 hS.1) hD hAn (pl_recv hK hP hh hfh (ci := 4) (q := (RX5, TX5, 7)) rfl)) rfl rfl hl.1 rfl (lv_room (Nat.le_of_ble_eq_true rfl)) dX5_gather_70 ⟨Nat.zero_le _, Nat.zero_le _⟩) hD hS hA (fun ur5 H locs hr5 hP hD hS hzr5 => ?_)
    subst hr5
    have hP : va_P D vwCl (va_pl L (va_up f r (.inl (k 0, 24, .inl (fa_fill (glF false g1 g2) g 24))))) H := hP
    have hD : va_D A (va_pl L (va_up f r (.inl (k 0, 24, .inl (fa_fill (glF false g1 g2) g 24))))) := hD
    refine lv_goto (tgt := 94) hx hb dX5_gather_73 (by decide) ?_
    rw [hQ]
    exact pc_vret hx hb hrt hP (by rw [← hAd]; exact hD) (by rw [← hAd]; exact hS) (by show _ = _; first | rw [pf3 (by assumption)] | rw [pf4 (by assumption)] | rw [pf5 (by assumption)] | rw [pf6 (by assumption)] | rw [pf7 (by assumption)] | rw [pf8 (by assumption)] | rw [pf0 (by assumption)]) dX5_gather_94 hlocks
  · refine lv_tableIn (off := 72) (tgt := 76) hx hb dX5_gather_4 (by rw [zI_toInt (by omega), q1]; decide) (by rw [zI_toInt (by omega), q1]; decide) (by rw [zI_toInt (by omega), q1]; rfl) (by decide) ?_
    refine lv_aload_n hx hb dX5_gather_76 rfl (lv_at hl 0 rfl) ?_
    refine pc_callv (va_runV (As := []) (rest := []) ⟨hx, hb, hml, hown, hts⟩ (kX5_gatherAhead l D k L f h d nd as op hop o1 d1 n1 gs1 as1 hd1 ho1 hx1 o2 d2 n2 gs2 as2 hd2 ho2 hx2 gs r g hgs hfgs hr hfr r1 g1 hgs1 hfgs1 hr1 hfr1 hrr1 r2 g2 hgs2 hfgs2 hr2 hfr2 hrr2 hh hfh  n0 _) (cwV 0 hts gX5_gather_X5_gatherAhead rfl rfl rfl (by decide +kernel) ⟨Nat.le_of_ble_eq_true rfl, Nat.le_of_ble_eq_true rfl⟩) (pc_preV hC hP (Nat.le_trans hn9 hS.1) hD hAn (pl_recv hK hP hh hfh (ci := 4) (q := (RX5, TX5, 7)) rfl)) rfl rfl hl.1 rfl (lv_room (Nat.le_of_ble_eq_true rfl)) dX5_gather_77 ⟨Nat.zero_le _, Nat.zero_le _⟩) hD hS hA (fun ur6 H locs hr6 hP hD hS hzr6 => ?_)
    subst hr6
    have hP : va_P D vwCl (va_pl L (va_up f r (.inl (k 0, 24, .inl (fa_fill (gaF g1 g2) g 24))))) H := hP
    have hD : va_D A (va_pl L (va_up f r (.inl (k 0, 24, .inl (fa_fill (gaF g1 g2) g 24))))) := hD
    refine lv_goto (tgt := 94) hx hb dX5_gather_80 (by decide) ?_
    rw [hQ]
    exact pc_vret hx hb hrt hP (by rw [← hAd]; exact hD) (by rw [← hAd]; exact hS) (by show _ = _; first | rw [pf3 (by assumption)] | rw [pf4 (by assumption)] | rw [pf5 (by assumption)] | rw [pf6 (by assumption)] | rw [pf7 (by assumption)] | rw [pf8 (by assumption)] | rw [pf0 (by assumption)]) dX5_gather_94 hlocks
  · refine lv_tableIn (off := 79) (tgt := 83) hx hb dX5_gather_4 (by rw [zI_toInt (by omega), q1]; decide) (by rw [zI_toInt (by omega), q1]; decide) (by rw [zI_toInt (by omega), q1]; rfl) (by decide) ?_
    refine lv_aload_n hx hb dX5_gather_83 rfl (lv_at hl 0 rfl) ?_
    refine pc_callv (va_runV (As := []) (rest := []) ⟨hx, hb, hml, hown, hts⟩ (kX5_gatherBehind l D k L f h d nd as op hop o1 d1 n1 gs1 as1 hd1 ho1 hx1 o2 d2 n2 gs2 as2 hd2 ho2 hx2 gs r g hgs hfgs hr hfr r1 g1 hgs1 hfgs1 hr1 hfr1 hrr1 r2 g2 hgs2 hfgs2 hr2 hfr2 hrr2 hh hfh  n0 _) (cwV 0 hts gX5_gather_X5_gatherBehind rfl rfl rfl (by decide +kernel) ⟨Nat.le_of_ble_eq_true rfl, Nat.le_of_ble_eq_true rfl⟩) (pc_preV hC hP (Nat.le_trans hn9 hS.1) hD hAn (pl_recv hK hP hh hfh (ci := 4) (q := (RX5, TX5, 7)) rfl)) rfl rfl hl.1 rfl (lv_room (Nat.le_of_ble_eq_true rfl)) dX5_gather_84 ⟨Nat.zero_le _, Nat.zero_le _⟩) hD hS hA (fun ur7 H locs hr7 hP hD hS hzr7 => ?_)
    subst hr7
    have hP : va_P D vwCl (va_pl L (va_up f r (.inl (k 0, 24, .inl (fa_fill (gbF g1 g2) g 24))))) H := hP
    have hD : va_D A (va_pl L (va_up f r (.inl (k 0, 24, .inl (fa_fill (gbF g1 g2) g 24))))) := hD
    refine lv_goto (tgt := 94) hx hb dX5_gather_87 (by decide) ?_
    rw [hQ]
    exact pc_vret hx hb hrt hP (by rw [← hAd]; exact hD) (by rw [← hAd]; exact hS) (by show _ = _; first | rw [pf3 (by assumption)] | rw [pf4 (by assumption)] | rw [pf5 (by assumption)] | rw [pf6 (by assumption)] | rw [pf7 (by assumption)] | rw [pf8 (by assumption)] | rw [pf0 (by assumption)]) dX5_gather_94 hlocks
  · refine lv_tableOut (tgt := 90) hx hb dX5_gather_4 (by rw [zI_toInt (by omega)]; exact q1) (by decide) ?_
    refine lv_aload_n hx hb dX5_gather_90 rfl (lv_at hl 0 rfl) ?_
    refine pc_callv (va_runV (As := []) (rest := []) ⟨hx, hb, hml, hown, hts⟩ (kX5_gatherRowByRow l D k L f h d nd as op hop o1 d1 n1 gs1 as1 hd1 ho1 hx1 o2 d2 n2 gs2 as2 hd2 ho2 hx2 gs r g hgs hfgs hr hfr r1 g1 hgs1 hfgs1 hr1 hfr1 hrr1 r2 g2 hgs2 hfgs2 hr2 hfr2 hrr2 hh hfh  n0 _) (cwV 0 hts gX5_gather_X5_gatherRowByRow rfl rfl rfl (by decide +kernel) ⟨Nat.le_of_ble_eq_true rfl, Nat.le_of_ble_eq_true rfl⟩) (pc_preV hC hP (Nat.le_trans hn9 hS.1) hD hAn (pl_recv hK hP hh hfh (ci := 4) (q := (RX5, TX5, 7)) rfl)) rfl rfl hl.1 rfl (lv_room (Nat.le_of_ble_eq_true rfl)) dX5_gather_91 ⟨Nat.zero_le _, Nat.zero_le _⟩) hD hS hA (fun ur8 H locs hr8 hP hD hS hzr8 => ?_)
    subst hr8
    have hP : va_P D vwCl (va_pl L (va_up f r (.inl (k 0, 24, .inl (fa_fill (grF op g1 g2) g 24))))) H := hP
    have hD : va_D A (va_pl L (va_up f r (.inl (k 0, 24, .inl (fa_fill (grF op g1 g2) g 24))))) := hD
    rw [hQ]
    exact pc_vret hx hb hrt hP (by rw [← hAd]; exact hD) (by rw [← hAd]; exact hS) (by show _ = _; first | rw [pf3 (by assumption)] | rw [pf4 (by assumption)] | rw [pf5 (by assumption)] | rw [pf6 (by assumption)] | rw [pf7 (by assumption)] | rw [pf8 (by assumption)] | rw [pf0 (by assumption)]) dX5_gather_94 hlocks
