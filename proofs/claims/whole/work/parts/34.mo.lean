set_option maxHeartbeats 4000000 in
set_option maxRecDepth 100000 in
theorem kX10_layNode (l : Launch) (D : va_G) (k : Nat → ClassId) (L : List Nat) (f : Nat → va_E) (S : SA) (hO : aOK S) (a : Nat → Nat) (tw : Int) (A1 A2 A3 A4 A5 A6 A7 A8 A9 A10 : Nat → Int32) (hM : mRep k L f a tw ((sN S)) ((sC S : Int)) A1 A2 A3 A4 A5 A6 A7 A8 A9 A10) (hMT : 0 ≤ tw ∧ tw ≤ 3) (hY : mSync S A1 A2 A3 A4 A5 A6 A7) (i : Nat) (hi : i < sC S) (hcq : comp S i → Rq A9 (sO S i) (sem S (sO S i)) ∧ Rq A9 (sP S i) (sem S (sP S i))) (n0 sz : Nat) : Met l yX10_layNode wsX10_layNode ({ frames := 3, cells := 0, slots := 0, locals := 71 } : Room) (va_Pc [.ref (a 0), .int (zI ((i : Int)))] (pPre D (tyL k) n0 (va_pl L f) sz)) (va_Qv (fun u => ∃ (F : Nat → va_E) (R V : Nat → Int32), u = va_pl L F ∧ mRep k L F a tw ((sN S)) ((sC S : Int)) A1 A2 A3 A4 A5 A6 A7 A8 R V ∧ rqI A9 R i 25 (sem S i)) (pB D (va_pl L f) sz) (va_A (va_pl L f) sz)) 0 0 (va_A (va_pl L f) sz) := by
  refine Met.ofW (cc := cX10_layNode) (maxL := 7) (ret := none) (by decide) rfl ?_
  intro p e s m args below meth c s₁ B hml hv
  obtain ⟨rfl, hsz, hn9, hP, hC, hD0⟩ := hv
  have hK := hC.1
  have hNW := hC.2.1
  have hx := B.exec
  have hb := B.bytes
  have hrt := B.returns
  have hts := atoms_spec (ws := wsX10_layNode) B.pre
  have hown : s.vm.findClass RX10 = some m.cls := findClass_of_methodNamed B.named
  have hlocks := B.notSynchronized
  subst hsz
  obtain ⟨A, hAd⟩ : ∃ A, A = va_A (va_pl L f) s.heap.size := ⟨_, rfl⟩
  have hD := hD0.self (sz := s.heap.size)
  rw [← hAd] at hD
  have hA : ∀ q : Nat, s.heap.size ≤ q → A q := fun q h => by rw [hAd]; exact Or.inr h
  have hAn : ∀ q : Nat, A q → n0 ≤ q := fun q h => by
    rw [hAd] at h
    rcases h with ⟨k9, e9, hk9⟩ | h
    · exact hD0.2 k9 _ hk9
    · exact Nat.le_trans hn9 h
  have hS : va_S A s.heap s.heap [] := va_S.rf
  have hi_X10 : ∀ w ∈ u_ws RX10 TX10 13, w ∈ wsX10_layNode := by decide +kernel
  have hw_0 := hts (.fieldLink RX10 16 "RegionryModel" "whats" "[I") (by decide +kernel)
  have hw_1 := hts (.fieldLink RX10 35 "RegionryModel" "rows" "[I") (by decide +kernel)
  have hw_2 := hts (.fieldLink RX10 19 "RegionryModel" "ones" "[I") (by decide +kernel)
  have hw_3 := hts (.fieldLink RX10 22 "RegionryModel" "others" "[I") (by decide +kernel)
  have hw_4 := hts (.fieldLink RX10 25 "RegionryModel" "gaps" "[I") (by decide +kernel)
  have hl := lv_entry ([.ref (a 0), .int (zI ((i : Int)))]) (n := 7) (Nat.le_of_ble_eq_true rfl)
  rw [lg_entry_eq]
  generalize (lg_sl ([.ref (a 0), .int (zI ((i : Int)))]) ++ List.replicate (7 - (lg_sl ([.ref (a 0), .int (zI ((i : Int)))])).length) Slot.unset).toArray = ls at hl ⊢
  have hl : lv_has ls 7 [(0, .ref (a 0)), (1, .int (zI ((i : Int))))] := hl
  obtain ⟨Q, hQ⟩ : ∃ Q, Q = MQ below (va_Qv (fun u => ∃ (F : Nat → va_E) (R V : Nat → Int32), u = va_pl L F ∧ mRep k L F a tw ((sN S)) ((sC S : Int)) A1 A2 A3 A4 A5 A6 A7 A8 R V ∧ rqI A9 R i 25 (sem S i)) (pB D (va_pl L f) s.heap.size) (va_A (va_pl L f) s.heap.size)) ([.ref (a 0), .int (zI ((i : Int)))] : List Value).toArray s 0 0 (va_A (va_pl L f) s.heap.size) := ⟨_, rfl⟩
  rw [← hQ]
  have hMN := hO.1
  have hMC : 0 ≤ (sC S : Int) ∧ (sC S : Int) ≤ 30 := by have h8 := hO.2.2.2.1; omega
  have hno := hO.2.2.2.2 i hi
  have hw14 := hno.1
  refine lv_aload_n hx hb dX10_layNode_0 rfl (lv_at hl 0 rfl) ?_
  refine pl_get (ci := 9) (v := .ref (a 3)) (C := RX10) (T := TX10) (N := 13) hx hb hts hi_X10 hown hK hP (hM.2.2.2.2.2.2.2.2.2.2.2.1 0 (by decide)) hM.1 rfl 5 (by decide) hw_0 (fun _ h9 => h9) rfl dX10_layNode_1 ?_
  refine lv_iload_n hx hb dX10_layNode_4 rfl (lv_at hl 1 rfl) ?_
  refine pl_iald hx hb hK hP (hM.2.2.2.2.2.2.2.2.2.2.2.1 3 (by decide)) 0 hM.2.2.2.1 rfl (i) (by omega) (by omega) (by decide) dX10_layNode_5 ?_
  refine zr_top (hY.2.2 i hi).1 ?_
  refine lv_istore_n (lv' := [(2, .int (zI ((sW S i : Int)))), (0, .ref (a 0)), (1, .int (zI ((i : Int))))]) hx hb dX10_layNode_6 rfl hl (by decide) rfl (fun ls hl => ?_)
  refine lv_iload_n hx hb dX10_layNode_7 rfl (lv_at hl 0 rfl) ?_
  refine zr_bipush hx hb dX10_layNode_8 (by decide) ?_
  refine zr_icmp_eq (tgt := 19) hx hb dX10_layNode_10 (by decide) (by omega) (by omega) (fun c1 => ?_) (fun c1 => ?_)
  · refine lv_aload_n hx hb dX10_layNode_19 rfl (lv_at hl 1 rfl) ?_
    refine lv_iload_n hx hb dX10_layNode_20 rfl (lv_at hl 2 rfl) ?_
    refine pc_callv (va_runV (As := [.int (zI ((i : Int)))]) (rest := []) ⟨hx, hb, hml, hown, hts⟩ (kX10_layLeaf l D k L f S hO a tw A1 A2 A3 A4 A5 A6 A7 A8 A9 A10 hM (by omega) hY i hi (by omega) n0 _) (cwV 1 hts gX10_layNode_X10_layLeaf rfl rfl rfl (by decide +kernel) ⟨Nat.le_of_ble_eq_true rfl, Nat.le_of_ble_eq_true rfl⟩) (pc_preV hC hP (Nat.le_trans hn9 hS.1) hD hAn (pl_recv hK hP (hM.2.2.2.2.2.2.2.2.2.2.2.1 0 (by decide)) hM.1 (ci := 9) (q := (RX10, TX10, 13)) rfl)) rfl rfl hl.1 rfl (lv_room (Nat.le_of_ble_eq_true rfl)) dX10_layNode_21 ⟨Nat.zero_le _, Nat.zero_le _⟩) hD hS hA (fun ur2 H locs hr2 hP hD hS hzr2 => ?_)
    obtain ⟨Fr2, Rr2, Vr2, hwr2, hMr2, hQr2⟩ := hr2
    have hwr2 : ur2 = va_pl L Fr2 := hwr2
    subst hwr2
    refine lv_goto (tgt := 208) hx hb dX10_layNode_24 (by decide) ?_
    rw [hQ]
    exact pc_vret hx hb hrt hP (by rw [← hAd]; exact hD) (by rw [← hAd]; exact hS) (⟨_, _, _, rfl, hMr2, hQr2⟩) dX10_layNode_208 hlocks
  · refine lv_iload_n hx hb dX10_layNode_13 rfl (lv_at hl 0 rfl) ?_
    refine zr_bipush hx hb dX10_layNode_14 (by decide) ?_
    refine zr_icmp_ne (tgt := 27) hx hb dX10_layNode_16 (by decide) (by omega) (by omega) (fun c3 => ?_) (fun c3 => ?_)
    · refine lv_iload_n hx hb dX10_layNode_27 rfl (lv_at hl 0 rfl) ?_
      refine zr_bipush hx hb dX10_layNode_28 (by decide) ?_
      refine zr_icmp_eq (tgt := 39) hx hb dX10_layNode_30 (by decide) (by omega) (by omega) (fun c4 => ?_) (fun c4 => ?_)
      · have hcc : comp S i := ⟨by omega, by omega⟩
        obtain ⟨hco, hcp⟩ := hno.2.2.2.2.1 hcc
        have hGA := sem24 hO (show sO S i < sC S by omega)
        have hGB := sem24 hO (show sP S i < sC S by omega)
        refine lv_aload_n hx hb dX10_layNode_39 rfl (lv_at hl 1 rfl) ?_
        refine lv_iload_n hx hb dX10_layNode_40 rfl (lv_at hl 2 rfl) ?_
        refine lv_iload_n hx hb dX10_layNode_41 rfl (lv_at hl 0 rfl) ?_
        refine zr_bipush hx hb dX10_layNode_42 (by decide) ?_
        refine zr_icmp_ne (tgt := 52) hx hb dX10_layNode_44 (by decide) (by omega) (by omega) (fun c5 => ?_) (fun c5 => ?_)
        · exfalso; omega
        · refine zr_bipush hx hb dX10_layNode_47 (by decide) ?_
          refine lv_goto (tgt := 58) hx hb dX10_layNode_49 (by decide) ?_
          refine pc_callv (va_runV (As := [.int (zI ((i : Int))), .int (zI (24))]) (rest := []) ⟨hx, hb, hml, hown, hts⟩ (kX10_layJoined l D k L f S hO a tw A1 A2 A3 A4 A5 A6 A7 A8 A9 A10 hM (by omega) hY i hi 24 (by omega) hcc (hcq hcc).1 (hcq hcc).2 n0 _) (cwV 2 hts gX10_layNode_X10_layJoined rfl rfl rfl (by decide +kernel) ⟨Nat.le_of_ble_eq_true rfl, Nat.le_of_ble_eq_true rfl⟩) (pc_preV hC hP (Nat.le_trans hn9 hS.1) hD hAn (pl_recv hK hP (hM.2.2.2.2.2.2.2.2.2.2.2.1 0 (by decide)) hM.1 (ci := 9) (q := (RX10, TX10, 13)) rfl)) rfl rfl hl.1 rfl (lv_room (Nat.le_of_ble_eq_true rfl)) dX10_layNode_58 ⟨Nat.zero_le _, Nat.zero_le _⟩) hD hS hA (fun ur6 H locs hr6 hP hD hS hzr6 => ?_)
          obtain ⟨Fr6, Rr6, Vr6, hwr6, hMr6, hJr6⟩ := hr6
          have hwr6 : ur6 = va_pl L Fr6 := hwr6
          subst hwr6
          refine lv_iload_n hx hb dX10_layNode_61 rfl (lv_at hl 0 rfl) ?_
          refine zr_bipush hx hb dX10_layNode_62 (by decide) ?_
          refine zr_icmp_ne (tgt := 208) hx hb dX10_layNode_64 (by decide) (by omega) (by omega) (fun c7 => ?_) (fun c7 => ?_)
          · exfalso; omega
          · refine lv_aload_n hx hb dX10_layNode_67 rfl (lv_at hl 1 rfl) ?_
            refine lv_iload_n hx hb dX10_layNode_68 rfl (lv_at hl 2 rfl) ?_
            refine pc_callv (va_runV (As := [.int (zI ((i : Int)))]) (rest := []) ⟨hx, hb, hml, hown, hts⟩ (kX10_leaveInner l D k L Fr6 a tw ((sN S)) ((sC S : Int)) A1 A2 A3 A4 A5 A6 A7 A8 Rr6 Vr6 hMr6 (by omega) (by omega) (by omega) i (by omega) (sJn (sem S (sO S i)) (sem S (sP S i)) (24 : Int).toNat) (sJn_in hGA hGB) (rqI.q (hJr6)) n0 _) (cwV 1 hts gX10_layNode_X10_leaveInner rfl rfl rfl (by decide +kernel) ⟨Nat.le_of_ble_eq_true rfl, Nat.le_of_ble_eq_true rfl⟩) (pc_preV hC hP (Nat.le_trans hn9 hS.1) hD hAn (pl_recv hK hP (hMr6.2.2.2.2.2.2.2.2.2.2.2.1 0 (by decide)) hMr6.1 (ci := 9) (q := (RX10, TX10, 13)) rfl)) rfl rfl hl.1 rfl (lv_room (Nat.le_of_ble_eq_true rfl)) dX10_layNode_69 ⟨Nat.zero_le _, Nat.zero_le _⟩) hD hS hA (fun ur8 H locs hr8 hP hD hS hzr8 => ?_)
            obtain ⟨Fr8, Rr8, Vr8, hwr8, hMr8, hIr8⟩ := hr8
            have hwr8 : ur8 = va_pl L Fr8 := hwr8
            subst hwr8
            refine lv_goto (tgt := 208) hx hb dX10_layNode_72 (by decide) ?_
            rw [hQ]
            exact pc_vret hx hb hrt hP (by rw [← hAd]; exact hD) (by rw [← hAd]; exact hS) (⟨_, _, _, rfl, hMr8, by rw [sem_9 hO hi (by omega)]; exact hJr6.tr hIr8⟩) dX10_layNode_208 hlocks
      · refine lv_iload_n hx hb dX10_layNode_33 rfl (lv_at hl 0 rfl) ?_
        refine zr_bipush hx hb dX10_layNode_34 (by decide) ?_
        refine zr_icmp_ne (tgt := 75) hx hb dX10_layNode_36 (by decide) (by omega) (by omega) (fun c9 => ?_) (fun c9 => ?_)
        · have hcc : comp S i := ⟨by omega, by omega⟩
          obtain ⟨hco, hcp⟩ := hno.2.2.2.2.1 hcc
          have hGA := sem24 hO (show sO S i < sC S by omega)
          have hGB := sem24 hO (show sP S i < sC S by omega)
          obtain ⟨hQA, hQB⟩ := hcq hcc
          have hwx : ¬ (9 ≤ sW S i ∧ sW S i ≤ 12) := by omega
          have hBA : 13 ≤ sW S i → sem S (sP S i) = sem S (sO S i) := fun q8 => by rw [hno.2.2.2.2.2.2 q8]
          refine zr_const hx hb dX10_layNode_75 ?_
          refine lv_istore_n (lv' := [(3, .int (zI (0))), (2, .int (zI ((sW S i : Int)))), (0, .ref (a 0)), (1, .int (zI ((i : Int))))]) hx hb dX10_layNode_76 rfl hl (by decide) rfl (fun ls hl => ?_)
          have cut_77 : ∀ (n9 : Nat) (x : Nat) (z3 : Int) (F77 : Nat → va_E) (R : Nat → Int32), (mRep k L F77 a tw ((sN S)) ((sC S : Int)) A1 A2 A3 A4 A5 A6 A7 A8 R A10) → (x ≤ 25) → (z3 = x) → (rqI A9 R i x (sem S i)) → 25 - z3 < (n9 : Int) → ∀ (H : Heap) (locs : List Loc), va_P D vwCl (va_pl L F77) H → va_D A (va_pl L F77) → va_S A s.heap H locs → ∀ (ls : Array Slot), lv_has ls 7 [(0, .ref (a 0)), (1, .int (zI ((i : Int)))), (2, .int (zI ((sW S i : Int)))), (3, .int (zI (z3)))] → W p l e (headSpec wsX10_layNode ({ frames := 3, cells := 0, slots := 0, locals := 71 } : Room)).room s m ([.ref (a 0), .int (zI ((i : Int)))] : List Value).toArray below meth c H locs 0 0 Q (F0 m 77 ls []) := by
            intro n9
            induction n9 with
            | zero =>
              intro x z3 F77 R hF77 hk hz3 hR hfu
              exact absurd hfu (by omega)
            | succ n9 ih_77 =>
              intro x z3 F77 R hF77 hk hz3 hR hfu H locs hP hD hS ls hl
              have hKA := hR.keep (by omega) hQA
              have hKB := hR.keep (by omega) hQB
              refine lv_iload_n hx hb dX10_layNode_77 rfl (lv_at hl 3 rfl) ?_
              refine zr_bipush hx hb dX10_layNode_78 (by decide) ?_
              refine zr_icmp_ge (tgt := 208) hx hb dX10_layNode_80 (by decide) (by omega) (by omega) (fun c10 => ?_) (fun c10 => ?_)
              · rw [hQ]
                exact pc_vret hx hb hrt hP (by rw [← hAd]; exact hD) (by rw [← hAd]; exact hS) (⟨_, _, _, rfl, hF77, by obtain rfl : x = 25 := (by omega); exact hR⟩) dX10_layNode_208 hlocks
              · have cut_114 : ∀ (n9 : Nat) (y : Nat) (zy : Int) (ev : Int32), (x < y ∧ y ≤ 25) → (zy = y) → (ndE ev (sW S i) (sem S (sO S i)) (sem S (sP S i)) x y) → 25 - zy < (n9 : Int) → ∀ (H : Heap) (locs : List Loc), va_P D vwCl (va_pl L F77) H → va_D A (va_pl L F77) → va_S A s.heap H locs → ∀ (ls : Array Slot), lv_has ls 7 [(0, .ref (a 0)), (1, .int (zI ((i : Int)))), (2, .int (zI ((sW S i : Int)))), (3, .int (zI (z3))), (4, .int (ev)), (5, .int (zI (zy)))] → W p l e (headSpec wsX10_layNode ({ frames := 3, cells := 0, slots := 0, locals := 71 } : Room)).room s m ([.ref (a 0), .int (zI ((i : Int)))] : List Value).toArray below meth c H locs 0 0 Q (F0 m 114 ls []) := by
                  intro n9
                  induction n9 with
                  | zero =>
                    intro y zy ev hk2 hzy hEv hfu
                    exact absurd hfu (by omega)
                  | succ n9 ih_114 =>
                    intro y zy ev hk2 hzy hEv hfu H locs hP hD hS ls hl
                    refine lv_iload hx hb dX10_layNode_114 (lv_at hl 5 rfl) ?_
                    refine zr_bipush hx hb dX10_layNode_116 (by decide) ?_
                    refine zr_icmp_ge (tgt := 189) hx hb dX10_layNode_118 (by decide) (by omega) (by omega) (fun c11 => ?_) (fun c11 => ?_)
                    · refine lv_aload_n hx hb dX10_layNode_189 rfl (lv_at hl 0 rfl) ?_
                      refine pl_get (ci := 9) (v := .ref (a 9)) (C := RX10) (T := TX10) (N := 13) hx hb hts hi_X10 hown hK hP (hF77.2.2.2.2.2.2.2.2.2.2.2.1 0 (by decide)) hF77.1 rfl 11 (by decide) hw_1 (fun _ h9 => h9) rfl dX10_layNode_190 ?_
                      refine zr_bipush hx hb dX10_layNode_193 (by decide) ?_
                      refine lv_iload_n hx hb dX10_layNode_195 rfl (lv_at hl 1 rfl) ?_
                      refine zr_mul hx hb dX10_layNode_196 ?_
                      refine lv_iload_n hx hb dX10_layNode_197 rfl (lv_at hl 3 rfl) ?_
                      refine zr_add hx hb dX10_layNode_198 ?_
                      refine lv_iload hx hb dX10_layNode_199 (lv_at hl 4 rfl) ?_
                      refine pl_iast (x := ev) hx hb hK hP hD hS (hF77.2.2.2.2.2.2.2.2.2.2.2.1 9 (by decide)) 0 hF77.2.2.2.2.2.2.2.2.2.1 rfl (25 * i + x) (by omega) (by omega) (by decide) dX10_layNode_201 (fun H locs hP hD hS => ?_)
                      have hP : va_P D vwCl (va_pl L (va_up F77 (a 9) (.inl (k 0, 750, .inl (upd R (25 * i + x) ev))))) H := hP
                      have hD : va_D A (va_pl L (va_up F77 (a 9) (.inl (k 0, 750, .inl (upd R (25 * i + x) ev))))) := hD
                      refine zr_iinc (k := 3) (lv' := [(3, .int (zI (z3 + 1))), (0, .ref (a 0)), (1, .int (zI ((i : Int)))), (2, .int (zI ((sW S i : Int)))), (4, .int (ev)), (5, .int (zI (zy)))]) hx hb dX10_layNode_202 hl rfl (by decide) rfl (fun ls hl => ?_)
                      refine lv_goto (tgt := 77) hx hb dX10_layNode_205 (by decide) ?_
                      exact ih_77 (x + 1) (z3 + 1) (va_up F77 (a 9) (.inl (k 0, 750, .inl (upd R (25 * i + x) ev)))) ((upd R (25 * i + x) ev)) ((mRep.s9 hF77 _)) (by omega) (by omega) (by obtain rfl : y = 25 := (by omega); exact rqI_s hR (by omega) (fun t ht => by rw [sem_nd hO hi hwx]; exact nd_e hEv hGA hGB t ht)) (by omega) _ _ hP hD hS _ (lv_sub hl [1, 2, 3, 0] rfl)
                    · refine lv_aload_n hx hb dX10_layNode_121 rfl (lv_at hl 0 rfl) ?_
                      refine lv_aload_n hx hb dX10_layNode_122 rfl (lv_at hl 0 rfl) ?_
                      refine pl_get (ci := 9) (v := .ref (a 4)) (C := RX10) (T := TX10) (N := 13) hx hb hts hi_X10 hown hK hP (hF77.2.2.2.2.2.2.2.2.2.2.2.1 0 (by decide)) hF77.1 rfl 6 (by decide) hw_2 (fun _ h9 => h9) rfl dX10_layNode_123 ?_
                      refine lv_iload_n hx hb dX10_layNode_126 rfl (lv_at hl 1 rfl) ?_
                      refine pl_iald hx hb hK hP (hF77.2.2.2.2.2.2.2.2.2.2.2.1 4 (by decide)) 0 hF77.2.2.2.2.1 rfl (i) (by omega) (by omega) (by decide) dX10_layNode_127 ?_
                      refine zr_top (hY.2.2 i hi).2.1 ?_
                      refine lv_iload_n hx hb dX10_layNode_128 rfl (lv_at hl 3 rfl) ?_
                      refine lv_iload hx hb dX10_layNode_129 (lv_at hl 5 rfl) ?_
                      rw [show (sO S i : Int) = (((sO S i) : Nat) : Int) by omega]
                      rw [show z3 = ((x : Nat) : Int) by omega]
                      rw [show zy = ((y : Nat) : Int) by omega]
                      refine vp_callSi (va_Run.run (va_runV (As := [.int (zI (((sO S i) : Int))), .int (zI ((x : Int))), .int (zI ((y : Int)))]) (rest := []) ⟨hx, hb, hml, hown, hts⟩ (kX10_holds l D k L F77 a tw ((sN S)) ((sC S : Int)) A1 A2 A3 A4 A5 A6 A7 A8 R A10 hF77 (by omega) (by omega) (by omega) ((sO S i)) x y (by omega) (by omega) (by omega)) (cwV 3 hts gX10_layNode_X10_holds rfl rfl rfl (by decide +kernel) ⟨Nat.le_of_ble_eq_true rfl, Nat.le_of_ble_eq_true rfl⟩) (rc_preV hC hP (pl_recv hK hP (hF77.2.2.2.2.2.2.2.2.2.2.2.1 0 (by decide)) hF77.1 (ci := 9) (q := (RX10, TX10, 13)) rfl)) rfl rfl hl.1 rfl (lv_room (Nat.le_of_ble_eq_true rfl)) dX10_layNode_131 ⟨Nat.zero_le _, Nat.zero_le _⟩)) (fun r12 hr12 => ?_)
                      subst hr12
                      refine zr_ifb_eq (tgt := 162) hx hb dX10_layNode_134 (by decide) (fun c13 => ?_) (fun c13 => ?_)
                      · refine zr_const hx hb dX10_layNode_162 ?_
                        refine zr_top (y := bI false) (by decide) ?_
                        refine lv_istore (lv' := [(6, .int (bI (false))), (0, .ref (a 0)), (1, .int (zI ((i : Int)))), (2, .int (zI ((sW S i : Int)))), (3, .int (zI (z3))), (4, .int (ev)), (5, .int (zI (zy)))]) hx hb dX10_layNode_163 hl (by decide) rfl (fun ls hl => ?_)
                        refine lv_iload hx hb dX10_layNode_165 (lv_at hl 5 rfl) ?_
                        refine lv_iload hx hb dX10_layNode_167 (lv_at hl 0 rfl) ?_
                        refine zr_ifb_eq (tgt := 179) hx hb dX10_layNode_169 (by decide) (fun c14 => ?_) (fun c14 => ?_)
                        · refine zr_const hx hb dX10_layNode_179 ?_
                          refine lv_ior hx hb dX10_layNode_180 ?_
                          refine lv_istore (lv' := [(4, .int (ev ||| (zI (0)))), (6, .int (bI (false))), (0, .ref (a 0)), (1, .int (zI ((i : Int)))), (2, .int (zI ((sW S i : Int)))), (3, .int (zI (z3))), (5, .int (zI (zy)))]) hx hb dX10_layNode_181 hl (by decide) rfl (fun ls hl => ?_)
                          refine zr_iinc (k := 6) (lv' := [(5, .int (zI (zy + 1))), (4, .int (ev ||| (zI (0)))), (6, .int (bI (false))), (0, .ref (a 0)), (1, .int (zI ((i : Int)))), (2, .int (zI ((sW S i : Int)))), (3, .int (zI (z3)))]) hx hb dX10_layNode_183 hl rfl (by decide) rfl (fun ls hl => ?_)
                          refine lv_goto (tgt := 114) hx hb dX10_layNode_186 (by decide) ?_
                          exact ih_114 (y + 1) (zy + 1) (ev ||| (zI (0))) (by omega) (by omega) (by first | (rw [show (zy).toNat = y by omega]; refine nd_y hEv (by omega) ?_; first | exact (mo_s hKB hGB ((hKA x (by omega) y (by omega)).mp (by assumption)) (by omega) (by omega) (by omega) hBA).mp (by assumption) | (rw [show sW S i = 0 by omega]; exact nd_0.mpr (Or.inl ((hKA x (by omega) y (by omega)).mp (by assumption))))) | exact nd_n hEv (nd_na (fun q8 => b_tf ((hKA x (by omega) y (by omega)).mpr q8) (by assumption))) | exact nd_n hEv (Or.inl (fun q8 => b_tf ((mo_s hKB hGB ((hKA x (by omega) y (by omega)).mp (by assumption)) (by omega) (by omega) (by omega) hBA).mpr q8) (by assumption)))) (by omega) _ _ hP hD hS _ (lv_sub hl [3, 4, 5, 6, 1, 0] rfl)
                        · exact absurd c14 (by decide)
                      · refine lv_iload_n hx hb dX10_layNode_137 rfl (lv_at hl 2 rfl) ?_
                        refine zr_if_eq (tgt := 158) hx hb dX10_layNode_138 (by decide) (by omega) (fun c15 => ?_) (fun c15 => ?_)
                        · refine zr_const hx hb dX10_layNode_158 ?_
                          refine lv_goto (tgt := 163) hx hb dX10_layNode_159 (by decide) ?_
                          refine zr_top (y := bI true) (by decide) ?_
                          refine lv_istore (lv' := [(6, .int (bI (true))), (0, .ref (a 0)), (1, .int (zI ((i : Int)))), (2, .int (zI ((sW S i : Int)))), (3, .int (zI (z3))), (4, .int (ev)), (5, .int (zI (zy)))]) hx hb dX10_layNode_163 hl (by decide) rfl (fun ls hl => ?_)
                          refine lv_iload hx hb dX10_layNode_165 (lv_at hl 5 rfl) ?_
                          refine lv_iload hx hb dX10_layNode_167 (lv_at hl 0 rfl) ?_
                          refine zr_ifb_eq (tgt := 179) hx hb dX10_layNode_169 (by decide) (fun c16 => ?_) (fun c16 => ?_)
                          · exact absurd c16 (by decide)
                          · refine zr_const hx hb dX10_layNode_172 ?_
                            refine lv_iload hx hb dX10_layNode_173 (lv_at hl 6 rfl) ?_
                            refine zr_shl1 hx hb (by omega) dX10_layNode_175 ?_
                            refine lv_goto (tgt := 180) hx hb dX10_layNode_176 (by decide) ?_
                            refine lv_ior hx hb dX10_layNode_180 ?_
                            refine lv_istore (lv' := [(4, .int (ev ||| (pw (zy).toNat))), (6, .int (bI (true))), (0, .ref (a 0)), (1, .int (zI ((i : Int)))), (2, .int (zI ((sW S i : Int)))), (3, .int (zI (z3))), (5, .int (zI (zy)))]) hx hb dX10_layNode_181 hl (by decide) rfl (fun ls hl => ?_)
                            refine zr_iinc (k := 6) (lv' := [(5, .int (zI (zy + 1))), (4, .int (ev ||| (pw (zy).toNat))), (6, .int (bI (true))), (0, .ref (a 0)), (1, .int (zI ((i : Int)))), (2, .int (zI ((sW S i : Int)))), (3, .int (zI (z3)))]) hx hb dX10_layNode_183 hl rfl (by decide) rfl (fun ls hl => ?_)
                            refine lv_goto (tgt := 114) hx hb dX10_layNode_186 (by decide) ?_
                            exact ih_114 (y + 1) (zy + 1) (ev ||| (pw (zy).toNat)) (by omega) (by omega) (by first | (rw [show (zy).toNat = y by omega]; refine nd_y hEv (by omega) ?_; first | exact (mo_s hKB hGB ((hKA x (by omega) y (by omega)).mp (by assumption)) (by omega) (by omega) (by omega) hBA).mp (by assumption) | (rw [show sW S i = 0 by omega]; exact nd_0.mpr (Or.inl ((hKA x (by omega) y (by omega)).mp (by assumption))))) | exact nd_n hEv (nd_na (fun q8 => b_tf ((hKA x (by omega) y (by omega)).mpr q8) (by assumption))) | exact nd_n hEv (Or.inl (fun q8 => b_tf ((mo_s hKB hGB ((hKA x (by omega) y (by omega)).mp (by assumption)) (by omega) (by omega) (by omega) hBA).mpr q8) (by assumption)))) (by omega) _ _ hP hD hS _ (lv_sub hl [3, 4, 5, 6, 1, 0] rfl)
                        · refine lv_aload_n hx hb dX10_layNode_141 rfl (lv_at hl 0 rfl) ?_
                          refine lv_iload_n hx hb dX10_layNode_142 rfl (lv_at hl 2 rfl) ?_
                          refine lv_aload_n hx hb dX10_layNode_143 rfl (lv_at hl 0 rfl) ?_
                          refine pl_get (ci := 9) (v := .ref (a 5)) (C := RX10) (T := TX10) (N := 13) hx hb hts hi_X10 hown hK hP (hF77.2.2.2.2.2.2.2.2.2.2.2.1 0 (by decide)) hF77.1 rfl 7 (by decide) hw_3 (fun _ h9 => h9) rfl dX10_layNode_144 ?_
                          refine lv_iload_n hx hb dX10_layNode_147 rfl (lv_at hl 1 rfl) ?_
                          refine pl_iald hx hb hK hP (hF77.2.2.2.2.2.2.2.2.2.2.2.1 5 (by decide)) 0 hF77.2.2.2.2.2.1 rfl (i) (by omega) (by omega) (by decide) dX10_layNode_148 ?_
                          refine zr_top ((hY.2.2 i hi).2.2.1 (by first | assumption | exact ⟨by omega, by omega⟩)) ?_
                          refine lv_iload_n hx hb dX10_layNode_149 rfl (lv_at hl 3 rfl) ?_
                          refine lv_iload hx hb dX10_layNode_150 (lv_at hl 5 rfl) ?_
                          rw [show (sW S i : Int) = (((sW S i) : Nat) : Int) by omega]
                          rw [show (sP S i : Int) = (((sP S i) : Nat) : Int) by omega]
                          rw [show z3 = ((x : Nat) : Int) by omega]
                          rw [show zy = ((y : Nat) : Int) by omega]
                          refine vp_callSi (va_Run.run (va_runV (As := [.int (zI (((sW S i) : Int))), .int (zI (((sP S i) : Int))), .int (zI ((x : Int))), .int (zI ((y : Int)))]) (rest := []) ⟨hx, hb, hml, hown, hts⟩ (kX10_isOne l D k L F77 a tw ((sN S)) ((sC S : Int)) A1 A2 A3 A4 A5 A6 A7 A8 R A10 hF77 (by omega) (by omega) (by omega) ((sW S i)) ((sP S i)) x y (by omega) (by omega) (by omega) (by omega)) (cwV 4 hts gX10_layNode_X10_isOne rfl rfl rfl (by decide +kernel) ⟨Nat.le_of_ble_eq_true rfl, Nat.le_of_ble_eq_true rfl⟩) (rc_preV hC hP (pl_recv hK hP (hF77.2.2.2.2.2.2.2.2.2.2.2.1 0 (by decide)) hF77.1 (ci := 9) (q := (RX10, TX10, 13)) rfl)) rfl rfl hl.1 rfl (lv_room (Nat.le_of_ble_eq_true rfl)) dX10_layNode_152 ⟨Nat.zero_le _, Nat.zero_le _⟩)) (fun r17 hr17 => ?_)
                          subst hr17
                          refine zr_ifb_eq (tgt := 162) hx hb dX10_layNode_155 (by decide) (fun c18 => ?_) (fun c18 => ?_)
                          · refine zr_const hx hb dX10_layNode_162 ?_
                            refine zr_top (y := bI false) (by decide) ?_
                            refine lv_istore (lv' := [(6, .int (bI (false))), (0, .ref (a 0)), (1, .int (zI ((i : Int)))), (2, .int (zI ((sW S i : Int)))), (3, .int (zI (z3))), (4, .int (ev)), (5, .int (zI (zy)))]) hx hb dX10_layNode_163 hl (by decide) rfl (fun ls hl => ?_)
                            refine lv_iload hx hb dX10_layNode_165 (lv_at hl 5 rfl) ?_
                            refine lv_iload hx hb dX10_layNode_167 (lv_at hl 0 rfl) ?_
                            refine zr_ifb_eq (tgt := 179) hx hb dX10_layNode_169 (by decide) (fun c19 => ?_) (fun c19 => ?_)
                            · refine zr_const hx hb dX10_layNode_179 ?_
                              refine lv_ior hx hb dX10_layNode_180 ?_
                              refine lv_istore (lv' := [(4, .int (ev ||| (zI (0)))), (6, .int (bI (false))), (0, .ref (a 0)), (1, .int (zI ((i : Int)))), (2, .int (zI ((sW S i : Int)))), (3, .int (zI (z3))), (5, .int (zI (zy)))]) hx hb dX10_layNode_181 hl (by decide) rfl (fun ls hl => ?_)
                              refine zr_iinc (k := 6) (lv' := [(5, .int (zI (zy + 1))), (4, .int (ev ||| (zI (0)))), (6, .int (bI (false))), (0, .ref (a 0)), (1, .int (zI ((i : Int)))), (2, .int (zI ((sW S i : Int)))), (3, .int (zI (z3)))]) hx hb dX10_layNode_183 hl rfl (by decide) rfl (fun ls hl => ?_)
                              refine lv_goto (tgt := 114) hx hb dX10_layNode_186 (by decide) ?_
                              exact ih_114 (y + 1) (zy + 1) (ev ||| (zI (0))) (by omega) (by omega) (by first | (rw [show (zy).toNat = y by omega]; refine nd_y hEv (by omega) ?_; first | exact (mo_s hKB hGB ((hKA x (by omega) y (by omega)).mp (by assumption)) (by omega) (by omega) (by omega) hBA).mp (by assumption) | (rw [show sW S i = 0 by omega]; exact nd_0.mpr (Or.inl ((hKA x (by omega) y (by omega)).mp (by assumption))))) | exact nd_n hEv (nd_na (fun q8 => b_tf ((hKA x (by omega) y (by omega)).mpr q8) (by assumption))) | exact nd_n hEv (Or.inl (fun q8 => b_tf ((mo_s hKB hGB ((hKA x (by omega) y (by omega)).mp (by assumption)) (by omega) (by omega) (by omega) hBA).mpr q8) (by assumption)))) (by omega) _ _ hP hD hS _ (lv_sub hl [3, 4, 5, 6, 1, 0] rfl)
                            · exact absurd c19 (by decide)
                          · refine zr_const hx hb dX10_layNode_158 ?_
                            refine lv_goto (tgt := 163) hx hb dX10_layNode_159 (by decide) ?_
                            refine zr_top (y := bI true) (by decide) ?_
                            refine lv_istore (lv' := [(6, .int (bI (true))), (0, .ref (a 0)), (1, .int (zI ((i : Int)))), (2, .int (zI ((sW S i : Int)))), (3, .int (zI (z3))), (4, .int (ev)), (5, .int (zI (zy)))]) hx hb dX10_layNode_163 hl (by decide) rfl (fun ls hl => ?_)
                            refine lv_iload hx hb dX10_layNode_165 (lv_at hl 5 rfl) ?_
                            refine lv_iload hx hb dX10_layNode_167 (lv_at hl 0 rfl) ?_
                            refine zr_ifb_eq (tgt := 179) hx hb dX10_layNode_169 (by decide) (fun c20 => ?_) (fun c20 => ?_)
                            · exact absurd c20 (by decide)
                            · refine zr_const hx hb dX10_layNode_172 ?_
                              refine lv_iload hx hb dX10_layNode_173 (lv_at hl 6 rfl) ?_
                              refine zr_shl1 hx hb (by omega) dX10_layNode_175 ?_
                              refine lv_goto (tgt := 180) hx hb dX10_layNode_176 (by decide) ?_
                              refine lv_ior hx hb dX10_layNode_180 ?_
                              refine lv_istore (lv' := [(4, .int (ev ||| (pw (zy).toNat))), (6, .int (bI (true))), (0, .ref (a 0)), (1, .int (zI ((i : Int)))), (2, .int (zI ((sW S i : Int)))), (3, .int (zI (z3))), (5, .int (zI (zy)))]) hx hb dX10_layNode_181 hl (by decide) rfl (fun ls hl => ?_)
                              refine zr_iinc (k := 6) (lv' := [(5, .int (zI (zy + 1))), (4, .int (ev ||| (pw (zy).toNat))), (6, .int (bI (true))), (0, .ref (a 0)), (1, .int (zI ((i : Int)))), (2, .int (zI ((sW S i : Int)))), (3, .int (zI (z3)))]) hx hb dX10_layNode_183 hl rfl (by decide) rfl (fun ls hl => ?_)
                              refine lv_goto (tgt := 114) hx hb dX10_layNode_186 (by decide) ?_
                              exact ih_114 (y + 1) (zy + 1) (ev ||| (pw (zy).toNat)) (by omega) (by omega) (by first | (rw [show (zy).toNat = y by omega]; refine nd_y hEv (by omega) ?_; first | exact (mo_s hKB hGB ((hKA x (by omega) y (by omega)).mp (by assumption)) (by omega) (by omega) (by omega) hBA).mp (by assumption) | (rw [show sW S i = 0 by omega]; exact nd_0.mpr (Or.inl ((hKA x (by omega) y (by omega)).mp (by assumption))))) | exact nd_n hEv (nd_na (fun q8 => b_tf ((hKA x (by omega) y (by omega)).mpr q8) (by assumption))) | exact nd_n hEv (Or.inl (fun q8 => b_tf ((mo_s hKB hGB ((hKA x (by omega) y (by omega)).mp (by assumption)) (by omega) (by omega) (by omega) hBA).mpr q8) (by assumption)))) (by omega) _ _ hP hD hS _ (lv_sub hl [3, 4, 5, 6, 1, 0] rfl)
                refine lv_iload_n hx hb dX10_layNode_83 rfl (lv_at hl 2 rfl) ?_
                refine zr_if_ne (tgt := 106) hx hb dX10_layNode_84 (by decide) (by omega) (fun c21 => ?_) (fun c21 => ?_)
                · refine zr_const hx hb dX10_layNode_106 ?_
                  refine lv_istore (lv' := [(4, .int (zI (0))), (0, .ref (a 0)), (1, .int (zI ((i : Int)))), (2, .int (zI ((sW S i : Int)))), (3, .int (zI (z3)))]) hx hb dX10_layNode_107 hl (by decide) rfl (fun ls hl => ?_)
                  refine lv_iload_n hx hb dX10_layNode_109 rfl (lv_at hl 4 rfl) ?_
                  refine zr_const hx hb dX10_layNode_110 ?_
                  refine zr_add hx hb dX10_layNode_111 ?_
                  refine lv_istore (lv' := [(5, .int (zI (z3 + 1))), (4, .int (zI (0))), (0, .ref (a 0)), (1, .int (zI ((i : Int)))), (2, .int (zI ((sW S i : Int)))), (3, .int (zI (z3)))]) hx hb dX10_layNode_112 hl (by decide) rfl (fun ls hl => ?_)
                  exact cut_114 ((25 - (z3 + 1) : Int).toNat + 1) (x + 1) (z3 + 1) (zI 0) (by omega) (by omega) (by first | exact nd_01 hGA hGB (by omega) | exact nd_00 hGA hGB (by omega) (hKB x (by omega))) (by omega) _ _ hP hD hS _ (lv_sub hl [2, 3, 4, 5, 1, 0] rfl)
                · refine lv_aload_n hx hb dX10_layNode_87 rfl (lv_at hl 0 rfl) ?_
                  refine pl_get (ci := 9) (v := .ref (a 9)) (C := RX10) (T := TX10) (N := 13) hx hb hts hi_X10 hown hK hP (hF77.2.2.2.2.2.2.2.2.2.2.2.1 0 (by decide)) hF77.1 rfl 11 (by decide) hw_1 (fun _ h9 => h9) rfl dX10_layNode_88 ?_
                  refine zr_bipush hx hb dX10_layNode_91 (by decide) ?_
                  refine lv_aload_n hx hb dX10_layNode_93 rfl (lv_at hl 0 rfl) ?_
                  refine pl_get (ci := 9) (v := .ref (a 5)) (C := RX10) (T := TX10) (N := 13) hx hb hts hi_X10 hown hK hP (hF77.2.2.2.2.2.2.2.2.2.2.2.1 0 (by decide)) hF77.1 rfl 7 (by decide) hw_3 (fun _ h9 => h9) rfl dX10_layNode_94 ?_
                  refine lv_iload_n hx hb dX10_layNode_97 rfl (lv_at hl 1 rfl) ?_
                  refine pl_iald hx hb hK hP (hF77.2.2.2.2.2.2.2.2.2.2.2.1 5 (by decide)) 0 hF77.2.2.2.2.2.1 rfl (i) (by omega) (by omega) (by decide) dX10_layNode_98 ?_
                  refine zr_top ((hY.2.2 i hi).2.2.1 (by first | assumption | exact ⟨by omega, by omega⟩)) ?_
                  refine zr_mul hx hb dX10_layNode_99 ?_
                  refine lv_iload_n hx hb dX10_layNode_100 rfl (lv_at hl 3 rfl) ?_
                  refine zr_add hx hb dX10_layNode_101 ?_
                  refine pl_iald hx hb hK hP (hF77.2.2.2.2.2.2.2.2.2.2.2.1 9 (by decide)) 0 hF77.2.2.2.2.2.2.2.2.2.1 rfl (25 * sP S i + x) (by omega) (by omega) (by decide) dX10_layNode_102 ?_
                  refine lv_goto (tgt := 107) hx hb dX10_layNode_103 (by decide) ?_
                  refine lv_istore (lv' := [(4, .int (R (25 * sP S i + x))), (0, .ref (a 0)), (1, .int (zI ((i : Int)))), (2, .int (zI ((sW S i : Int)))), (3, .int (zI (z3)))]) hx hb dX10_layNode_107 hl (by decide) rfl (fun ls hl => ?_)
                  refine lv_iload_n hx hb dX10_layNode_109 rfl (lv_at hl 4 rfl) ?_
                  refine zr_const hx hb dX10_layNode_110 ?_
                  refine zr_add hx hb dX10_layNode_111 ?_
                  refine lv_istore (lv' := [(5, .int (zI (z3 + 1))), (4, .int (R (25 * sP S i + x))), (0, .ref (a 0)), (1, .int (zI ((i : Int)))), (2, .int (zI ((sW S i : Int)))), (3, .int (zI (z3)))]) hx hb dX10_layNode_112 hl (by decide) rfl (fun ls hl => ?_)
                  exact cut_114 ((25 - (z3 + 1) : Int).toNat + 1) (x + 1) (z3 + 1) (R (25 * sP S i + x)) (by omega) (by omega) (by first | exact nd_01 hGA hGB (by omega) | exact nd_00 hGA hGB (by omega) (hKB x (by omega))) (by omega) _ _ hP hD hS _ (lv_sub hl [2, 3, 4, 5, 1, 0] rfl)
          exact cut_77 ((25 - (0) : Int).toNat + 1) (0) (0) (f) (A9) (hM) (by omega) (by omega) (rqI_0 _ _ _) (by omega) _ _ hP hD hS _ (lv_sub hl [2, 3, 1, 0] rfl)
        · have hcc : comp S i := ⟨by omega, by omega⟩
          obtain ⟨hco, hcp⟩ := hno.2.2.2.2.1 hcc
          have hGA := sem24 hO (show sO S i < sC S by omega)
          have hGB := sem24 hO (show sP S i < sC S by omega)
          refine lv_aload_n hx hb dX10_layNode_39 rfl (lv_at hl 1 rfl) ?_
          refine lv_iload_n hx hb dX10_layNode_40 rfl (lv_at hl 2 rfl) ?_
          refine lv_iload_n hx hb dX10_layNode_41 rfl (lv_at hl 0 rfl) ?_
          refine zr_bipush hx hb dX10_layNode_42 (by decide) ?_
          refine zr_icmp_ne (tgt := 52) hx hb dX10_layNode_44 (by decide) (by omega) (by omega) (fun c22 => ?_) (fun c22 => ?_)
          · refine lv_aload_n hx hb dX10_layNode_52 rfl (lv_at hl 1 rfl) ?_
            refine pl_get (ci := 9) (v := .ref (a 6)) (C := RX10) (T := TX10) (N := 13) hx hb hts hi_X10 hown hK hP (hM.2.2.2.2.2.2.2.2.2.2.2.1 0 (by decide)) hM.1 rfl 8 (by decide) hw_4 (fun _ h9 => h9) rfl dX10_layNode_53 ?_
            refine lv_iload_n hx hb dX10_layNode_56 rfl (lv_at hl 2 rfl) ?_
            refine pl_iald hx hb hK hP (hM.2.2.2.2.2.2.2.2.2.2.2.1 6 (by decide)) 0 hM.2.2.2.2.2.2.1 rfl (i) (by omega) (by omega) (by decide) dX10_layNode_57 ?_
            refine zr_top (hY.2.2 i hi).2.2.2.1 ?_
            have hgg := hno.2.2.2.2.2.1 (by omega)
            refine pc_callv (va_runV (As := [.int (zI ((i : Int))), .int (zI (sG S i))]) (rest := []) ⟨hx, hb, hml, hown, hts⟩ (kX10_layJoined l D k L f S hO a tw A1 A2 A3 A4 A5 A6 A7 A8 A9 A10 hM (by omega) hY i hi (sG S i) (by omega) hcc (hcq hcc).1 (hcq hcc).2 n0 _) (cwV 2 hts gX10_layNode_X10_layJoined rfl rfl rfl (by decide +kernel) ⟨Nat.le_of_ble_eq_true rfl, Nat.le_of_ble_eq_true rfl⟩) (pc_preV hC hP (Nat.le_trans hn9 hS.1) hD hAn (pl_recv hK hP (hM.2.2.2.2.2.2.2.2.2.2.2.1 0 (by decide)) hM.1 (ci := 9) (q := (RX10, TX10, 13)) rfl)) rfl rfl hl.1 rfl (lv_room (Nat.le_of_ble_eq_true rfl)) dX10_layNode_58 ⟨Nat.zero_le _, Nat.zero_le _⟩) hD hS hA (fun ur23 H locs hr23 hP hD hS hzr23 => ?_)
            obtain ⟨Fr23, Rr23, Vr23, hwr23, hMr23, hJr23⟩ := hr23
            have hwr23 : ur23 = va_pl L Fr23 := hwr23
            subst hwr23
            refine lv_iload_n hx hb dX10_layNode_61 rfl (lv_at hl 0 rfl) ?_
            refine zr_bipush hx hb dX10_layNode_62 (by decide) ?_
            refine zr_icmp_ne (tgt := 208) hx hb dX10_layNode_64 (by decide) (by omega) (by omega) (fun c24 => ?_) (fun c24 => ?_)
            · rw [hQ]
              exact pc_vret hx hb hrt hP (by rw [← hAd]; exact hD) (by rw [← hAd]; exact hS) (⟨_, _, _, rfl, hMr23, by rw [sem_10 hO hi (by omega)]; exact hJr23⟩) dX10_layNode_208 hlocks
            · exfalso; omega
          · exfalso; omega
    · refine lv_aload_n hx hb dX10_layNode_19 rfl (lv_at hl 1 rfl) ?_
      refine lv_iload_n hx hb dX10_layNode_20 rfl (lv_at hl 2 rfl) ?_
      refine pc_callv (va_runV (As := [.int (zI ((i : Int)))]) (rest := []) ⟨hx, hb, hml, hown, hts⟩ (kX10_layLeaf l D k L f S hO a tw A1 A2 A3 A4 A5 A6 A7 A8 A9 A10 hM (by omega) hY i hi (by omega) n0 _) (cwV 1 hts gX10_layNode_X10_layLeaf rfl rfl rfl (by decide +kernel) ⟨Nat.le_of_ble_eq_true rfl, Nat.le_of_ble_eq_true rfl⟩) (pc_preV hC hP (Nat.le_trans hn9 hS.1) hD hAn (pl_recv hK hP (hM.2.2.2.2.2.2.2.2.2.2.2.1 0 (by decide)) hM.1 (ci := 9) (q := (RX10, TX10, 13)) rfl)) rfl rfl hl.1 rfl (lv_room (Nat.le_of_ble_eq_true rfl)) dX10_layNode_21 ⟨Nat.zero_le _, Nat.zero_le _⟩) hD hS hA (fun ur25 H locs hr25 hP hD hS hzr25 => ?_)
      obtain ⟨Fr25, Rr25, Vr25, hwr25, hMr25, hQr25⟩ := hr25
      have hwr25 : ur25 = va_pl L Fr25 := hwr25
      subst hwr25
      refine lv_goto (tgt := 208) hx hb dX10_layNode_24 (by decide) ?_
      rw [hQ]
      exact pc_vret hx hb hrt hP (by rw [← hAd]; exact hD) (by rw [← hAd]; exact hS) (⟨_, _, _, rfl, hMr25, hQr25⟩) dX10_layNode_208 hlocks

def ndU (bw : Nat → Bool) (a b : Nat) : Nat → Bool := fun q => if q = b then true else if q = a then true else bw q
theorem ndU_N {Nn : Nat → Int32} {bw : Nat → Bool} (h : ∀ q, q < 30 → Nn q = bI (bw q)) (a b : Nat) : ∀ q, q < 30 → upd (upd Nn a (zI 1)) b (zI 1) q = bI (ndU bw a b q) := fun q hq => by
  unfold ndU
  by_cases c : q = b
  · subst c; rw [pk_us, if_pos rfl]; decide
  · rw [pk_un c, if_neg c]
    by_cases d : q = a
    · subst d; rw [pk_us, if_pos rfl]; decide
    · rw [pk_un d, if_neg d]; exact h q hq
theorem ndU_t {bw : Nat → Bool} {a b q : Nat} (h : bw q = true) : ndU bw a b q = true := by
  unfold ndU
  by_cases c : q = b
  · rw [if_pos c]
  · rw [if_neg c]
    by_cases d : q = a
    · rw [if_pos d]
    · rw [if_neg d]; exact h
theorem ndU_a {bw : Nat → Bool} {a b : Nat} : ndU bw a b a = true ∧ ndU bw a b b = true := by
  unfold ndU
  rw [if_pos rfl, if_pos rfl]
  by_cases c : a = b
  · rw [if_pos c]; exact ⟨rfl, rfl⟩
  · rw [if_neg c]; exact ⟨rfl, rfl⟩
/-- the nodes from x on, up to i, have their parts needed -/
def clI (S : SA) (bw : Nat → Bool) (i x : Nat) : Prop := bw i = true ∧ ∀ j, x ≤ j → j ≤ i → bw j = true → comp S j → bw (sO S j) = true ∧ bw (sP S j) = true
theorem clI_0 {S : SA} {i : Nat} : clI S (fun q => decide (q = i)) i (i + 1) := ⟨decide_eq_true rfl, fun j h1 h2 => absurd h1 (by omega)⟩
theorem clI_n {S : SA} {bw : Nat → Bool} {i y : Nat} (h : clI S bw i (y + 1)) (hn : bw y = true → comp S y → False) : clI S bw i y := ⟨h.1, fun j h1 h2 h3 h4 => by
  by_cases c : j = y
  · subst c; exact absurd (hn h3 h4) id
  · exact h.2 j (by omega) h2 h3 h4⟩
theorem clI_y {S : SA} {bw : Nat → Bool} {i y : Nat} (h : clI S bw i (y + 1)) (h1 : sO S y < y) (h2 : sP S y < y) : clI S (ndU bw (sO S y) (sP S y)) i y := ⟨ndU_t h.1, fun j a b c d => by
  by_cases e : j = y
  · subst e; exact ndU_a
  · have c2 : bw j = true := by
      unfold ndU at c
      rw [if_neg (by omega), if_neg (by omega)] at c
      exact c
    have := h.2 j (by omega) b c2 d
    exact ⟨ndU_t this.1, ndU_t this.2⟩⟩
/-- the needed nodes below x are laid -/
def lyI (S : SA) (bw : Nat → Bool) (R : Nat → Int32) (x : Nat) : Prop := ∀ q, q < x → bw q = true → Rq R q (sem S q)
theorem lyI_n {S : SA} {bw : Nat → Bool} {R : Nat → Int32} {x : Nat} (h : lyI S bw R x) (hn : bw x = false) : lyI S bw R (x + 1) := fun q hq hb => by
  by_cases c : q = x
  · subst c; exact absurd hb (by rw [hn]; decide)
  · exact h q (by omega) hb
theorem lyI_y {S : SA} {bw : Nat → Bool} {R R2 : Nat → Int32} {x : Nat} (h : lyI S bw R x) (h2 : rqI R R2 x 25 (sem S x)) : lyI S bw R2 (x + 1) := fun q hq hb => by
  by_cases c : q = x
  · subst c; exact h2.q
  · exact h2.keep c (h q (by omega) hb)

set_option maxHeartbeats 4000000 in
set_option maxRecDepth 100000 in
theorem kX10_lay (l : Launch) (D : va_G) (k : Nat → ClassId) (L : List Nat) (f : Nat → va_E) (S : SA) (hO : aOK S) (a : Nat → Nat) (tw : Int) (A1 A2 A3 A4 A5 A6 A7 A8 A9 A10 : Nat → Int32) (hM : mRep k L f a tw ((sN S)) ((sC S : Int)) A1 A2 A3 A4 A5 A6 A7 A8 A9 A10) (hMT : 0 ≤ tw ∧ tw ≤ 3) (hY : mSync S A1 A2 A3 A4 A5 A6 A7) (i : Nat) (hi : i < sC S) (n0 sz : Nat) : Met l yX10_lay wsX10_lay ({ frames := 4, cells := 0, slots := 0, locals := 97 } : Room) (va_Pc [.ref (a 0), .int (zI ((i : Int)))] (pPre D (tyL k) n0 (va_pl L f) sz)) (va_Qv (fun u => ∃ (F : Nat → va_E) (N3 R V : Nat → Int32), u = va_pl L F ∧ mRep k L F a tw ((sN S)) ((sC S : Int)) A1 A2 A3 A4 A5 A6 A7 N3 R V ∧ Rq R i (sem S i)) (pB D (va_pl L f) sz) (va_A (va_pl L f) sz)) 0 0 (va_A (va_pl L f) sz) := by
  refine Met.ofW (cc := cX10_lay) (maxL := 3) (ret := none) (by decide) rfl ?_
  intro p e s m args below meth c s₁ B hml hv
  obtain ⟨rfl, hsz, hn9, hP, hC, hD0⟩ := hv
  have hK := hC.1
  have hNW := hC.2.1
  have hx := B.exec
  have hb := B.bytes
  have hrt := B.returns
  have hts := atoms_spec (ws := wsX10_lay) B.pre
  have hown : s.vm.findClass RX10 = some m.cls := findClass_of_methodNamed B.named
  have hlocks := B.notSynchronized
  subst hsz
  obtain ⟨A, hAd⟩ : ∃ A, A = va_A (va_pl L f) s.heap.size := ⟨_, rfl⟩
  have hD := hD0.self (sz := s.heap.size)
  rw [← hAd] at hD
  have hA : ∀ q : Nat, s.heap.size ≤ q → A q := fun q h => by rw [hAd]; exact Or.inr h
  have hAn : ∀ q : Nat, A q → n0 ≤ q := fun q h => by
    rw [hAd] at h
    rcases h with ⟨k9, e9, hk9⟩ | h
    · exact hD0.2 k9 _ hk9
    · exact Nat.le_trans hn9 h
  have hS : va_S A s.heap s.heap [] := va_S.rf
  have hi_X10 : ∀ w ∈ u_ws RX10 TX10 13, w ∈ wsX10_lay := by decide +kernel
  have hw_0 := hts (.fieldLink RX10 31 "RegionryModel" "isNeeded" "[Z") (by decide +kernel)
  have hw_1 := hts (.fieldLink RX10 16 "RegionryModel" "whats" "[I") (by decide +kernel)
  have hw_2 := hts (.fieldLink RX10 19 "RegionryModel" "ones" "[I") (by decide +kernel)
  have hw_3 := hts (.fieldLink RX10 22 "RegionryModel" "others" "[I") (by decide +kernel)
  have hl := lv_entry ([.ref (a 0), .int (zI ((i : Int)))]) (n := 3) (Nat.le_of_ble_eq_true rfl)
  rw [lg_entry_eq]
  generalize (lg_sl ([.ref (a 0), .int (zI ((i : Int)))]) ++ List.replicate (3 - (lg_sl ([.ref (a 0), .int (zI ((i : Int)))])).length) Slot.unset).toArray = ls at hl ⊢
  have hl : lv_has ls 3 [(0, .ref (a 0)), (1, .int (zI ((i : Int))))] := hl
  obtain ⟨Q, hQ⟩ : ∃ Q, Q = MQ below (va_Qv (fun u => ∃ (F : Nat → va_E) (N3 R V : Nat → Int32), u = va_pl L F ∧ mRep k L F a tw ((sN S)) ((sC S : Int)) A1 A2 A3 A4 A5 A6 A7 N3 R V ∧ Rq R i (sem S i)) (pB D (va_pl L f) s.heap.size) (va_A (va_pl L f) s.heap.size)) ([.ref (a 0), .int (zI ((i : Int)))] : List Value).toArray s 0 0 (va_A (va_pl L f) s.heap.size) := ⟨_, rfl⟩
  rw [← hQ]
  have hMN := hO.1
  have hMC : 0 ≤ (sC S : Int) ∧ (sC S : Int) ≤ 30 := by have h8 := hO.2.2.2.1; omega
  refine zr_const hx hb dX10_lay_0 ?_
  refine lv_istore_n (lv' := [(2, .int (zI (0))), (0, .ref (a 0)), (1, .int (zI ((i : Int))))]) hx hb dX10_lay_1 rfl hl (by decide) rfl (fun ls hl => ?_)
  have cut_2 : ∀ (n9 : Nat) (x : Nat) (z2 : Int) (F2 : Nat → va_E) (N1 : Nat → Int32), (mRep k L F2 a tw ((sN S)) ((sC S : Int)) A1 A2 A3 A4 A5 A6 A7 N1 A9 A10) → (x ≤ 30) → (z2 = x) → (∀ q, q < x → N1 q = bI (decide (q = i))) → 30 - z2 < (n9 : Int) → ∀ (H : Heap) (locs : List Loc), va_P D vwCl (va_pl L F2) H → va_D A (va_pl L F2) → va_S A s.heap H locs → ∀ (ls : Array Slot), lv_has ls 3 [(0, .ref (a 0)), (1, .int (zI ((i : Int)))), (2, .int (zI (z2)))] → W p l e (headSpec wsX10_lay ({ frames := 4, cells := 0, slots := 0, locals := 97 } : Room)).room s m ([.ref (a 0), .int (zI ((i : Int)))] : List Value).toArray below meth c H locs 0 0 Q (F0 m 2 ls []) := by
    intro n9
    induction n9 with
    | zero =>
      intro x z2 F2 N1 hF2 hk hz2 hN1 hfu
      exact absurd hfu (by omega)
    | succ n9 ih_2 =>
      intro x z2 F2 N1 hF2 hk hz2 hN1 hfu H locs hP hD hS ls hl
      refine lv_iload_n hx hb dX10_lay_2 rfl (lv_at hl 2 rfl) ?_
      refine zr_bipush hx hb dX10_lay_3 (by decide) ?_
      refine zr_icmp_ge (tgt := 30) hx hb dX10_lay_5 (by decide) (by omega) (by omega) (fun c1 => ?_) (fun c1 => ?_)
      · refine lv_iload_n hx hb dX10_lay_30 rfl (lv_at hl 1 rfl) ?_
        refine lv_istore_n (lv' := [(2, .int (zI ((i : Int)))), (0, .ref (a 0)), (1, .int (zI ((i : Int))))]) hx hb dX10_lay_31 rfl hl (by decide) rfl (fun ls hl => ?_)
        have cut_32 : ∀ (n9 : Nat) (x2 : Nat) (z3 : Int) (bw : Nat → Bool) (F32 : Nat → va_E) (N2 : Nat → Int32), (mRep k L F32 a tw ((sN S)) ((sC S : Int)) A1 A2 A3 A4 A5 A6 A7 N2 A9 A10) → (x2 ≤ i + 1) → (z3 = (x2 : Int) - 1) → (∀ q, q < 30 → N2 q = bI (bw q)) → (clI S bw i x2) → z3 + 1 < (n9 : Int) → ∀ (H : Heap) (locs : List Loc), va_P D vwCl (va_pl L F32) H → va_D A (va_pl L F32) → va_S A s.heap H locs → ∀ (ls : Array Slot), lv_has ls 3 [(0, .ref (a 0)), (1, .int (zI ((i : Int)))), (2, .int (zI (z3)))] → W p l e (headSpec wsX10_lay ({ frames := 4, cells := 0, slots := 0, locals := 97 } : Room)).room s m ([.ref (a 0), .int (zI ((i : Int)))] : List Value).toArray below meth c H locs 0 0 Q (F0 m 32 ls []) := by
          intro n9
          induction n9 with
          | zero =>
            intro x2 z3 bw F32 N2 hF32 hk2 hz3 hN2 hcl hfu
            exact absurd hfu (by omega)
          | succ n9 ih_32 =>
            intro x2 z3 bw F32 N2 hF32 hk2 hz3 hN2 hcl hfu H locs hP hD hS ls hl
            refine lv_iload_n hx hb dX10_lay_32 rfl (lv_at hl 2 rfl) ?_
            refine zr_if_lt (tgt := 97) hx hb dX10_lay_33 (by decide) (by omega) (fun c2 => ?_) (fun c2 => ?_)
            · refine zr_const hx hb dX10_lay_97 ?_
              refine lv_istore_n (lv' := [(2, .int (zI (0))), (0, .ref (a 0)), (1, .int (zI ((i : Int))))]) hx hb dX10_lay_98 rfl hl (by decide) rfl (fun ls hl => ?_)
              have cut_99 : ∀ (n9 : Nat) (x : Nat) (z4 : Int) (F99 : Nat → va_E) (R : Nat → Int32) (V : Nat → Int32), (mRep k L F99 a tw ((sN S)) ((sC S : Int)) A1 A2 A3 A4 A5 A6 A7 N2 R V) → (x ≤ i + 1) → (z4 = x) → (lyI S bw R x) → (i : Int) + 1 - z4 < (n9 : Int) → ∀ (H : Heap) (locs : List Loc), va_P D vwCl (va_pl L F99) H → va_D A (va_pl L F99) → va_S A s.heap H locs → ∀ (ls : Array Slot), lv_has ls 3 [(0, .ref (a 0)), (1, .int (zI ((i : Int)))), (2, .int (zI (z4)))] → W p l e (headSpec wsX10_lay ({ frames := 4, cells := 0, slots := 0, locals := 97 } : Room)).room s m ([.ref (a 0), .int (zI ((i : Int)))] : List Value).toArray below meth c H locs 0 0 Q (F0 m 99 ls []) := by
                intro n9
                induction n9 with
                | zero =>
                  intro x z4 F99 R V hF99 hk3 hz4 hly hfu
                  exact absurd hfu (by omega)
                | succ n9 ih_99 =>
                  intro x z4 F99 R V hF99 hk3 hz4 hly hfu H locs hP hD hS ls hl
                  refine lv_iload_n hx hb dX10_lay_99 rfl (lv_at hl 2 rfl) ?_
                  refine lv_iload_n hx hb dX10_lay_100 rfl (lv_at hl 1 rfl) ?_
                  refine zr_icmp_gt (tgt := 124) hx hb dX10_lay_101 (by decide) (by omega) (by omega) (fun c3 => ?_) (fun c3 => ?_)
                  · rw [hQ]
                    exact pc_vret hx hb hrt hP (by rw [← hAd]; exact hD) (by rw [← hAd]; exact hS) (⟨_, _, _, _, rfl, hF99, hly i (by omega) hcl.1⟩) dX10_lay_124 hlocks
                  · refine lv_aload_n hx hb dX10_lay_104 rfl (lv_at hl 0 rfl) ?_
                    refine pl_get (ci := 9) (v := .ref (a 8)) (C := RX10) (T := TX10) (N := 13) hx hb hts hi_X10 hown hK hP (hF99.2.2.2.2.2.2.2.2.2.2.2.1 0 (by decide)) hF99.1 rfl 10 (by decide) hw_0 (fun _ h9 => h9) rfl dX10_lay_105 ?_
                    refine lv_iload_n hx hb dX10_lay_108 rfl (lv_at hl 2 rfl) ?_
                    refine pl_zald hx hb hK hP (hF99.2.2.2.2.2.2.2.2.2.2.2.1 8 (by decide)) 1 hF99.2.2.2.2.2.2.2.2.1 rfl (x) (by omega) (by omega) (by decide) dX10_lay_109 ?_
                    refine zr_top (hN2 x (by omega)) ?_
                    refine zr_ifb_eq (tgt := 118) hx hb dX10_lay_110 (by decide) (fun c4 => ?_) (fun c4 => ?_)
                    · refine zr_iinc (k := 2) (lv' := [(2, .int (zI (z4 + 1))), (0, .ref (a 0)), (1, .int (zI ((i : Int))))]) hx hb dX10_lay_118 hl rfl (by decide) rfl (fun ls hl => ?_)
                      refine lv_goto (tgt := 99) hx hb dX10_lay_121 (by decide) ?_
                      exact ih_99 (x + 1) (z4 + 1) (F99) (R) (V) (hF99) (by omega) (by omega) (by first | exact lyI_n hly (by assumption)) (by omega) _ _ hP hD hS _ (lv_sub hl [1, 2, 0] rfl)
                    · refine lv_aload_n hx hb dX10_lay_113 rfl (lv_at hl 0 rfl) ?_
                      refine lv_iload_n hx hb dX10_lay_114 rfl (lv_at hl 2 rfl) ?_
                      have hpx : comp S x → Rq R (sO S x) (sem S (sO S x)) ∧ Rq R (sP S x) (sem S (sP S x)) := fun q8 => by have q7 := hcl.2 x (by omega) (by omega) (by assumption) q8; have q6 := (hO.2.2.2.2 x (by omega)).2.2.2.2.1 q8; exact ⟨hly _ q6.1 q7.1, hly _ q6.2 q7.2⟩
                      rw [show z4 = ((x : Nat) : Int) by omega]
                      refine pc_callv (va_runV (As := [.int (zI ((x : Int)))]) (rest := []) ⟨hx, hb, hml, hown, hts⟩ (kX10_layNode l D k L F99 S hO a tw A1 A2 A3 A4 A5 A6 A7 N2 R V hF99 (by omega) hY x (by omega) hpx n0 _) (cwV 1 hts gX10_lay_X10_layNode rfl rfl rfl (by decide +kernel) ⟨Nat.le_of_ble_eq_true rfl, Nat.le_of_ble_eq_true rfl⟩) (pc_preV hC hP (Nat.le_trans hn9 hS.1) hD hAn (pl_recv hK hP (hF99.2.2.2.2.2.2.2.2.2.2.2.1 0 (by decide)) hF99.1 (ci := 9) (q := (RX10, TX10, 13)) rfl)) rfl rfl hl.1 rfl (lv_room (Nat.le_of_ble_eq_true rfl)) dX10_lay_115 ⟨Nat.zero_le _, Nat.zero_le _⟩) hD hS hA (fun ur5 H locs hr5 hP hD hS hzr5 => ?_)
                      obtain ⟨Fr5, Rr5, Vr5, hwr5, hMr5, hIr5⟩ := hr5
                      have hwr5 : ur5 = va_pl L Fr5 := hwr5
                      subst hwr5
                      refine zr_iinc (k := 2) (lv' := [(2, .int (zI (z4 + 1))), (0, .ref (a 0)), (1, .int (zI ((i : Int))))]) hx hb dX10_lay_118 hl rfl (by decide) rfl (fun ls hl => ?_)
                      refine lv_goto (tgt := 99) hx hb dX10_lay_121 (by decide) ?_
                      exact ih_99 (x + 1) (z4 + 1) (Fr5) (Rr5) (Vr5) (hMr5) (by omega) (by omega) (by first | exact lyI_n hly (by assumption) | exact lyI_y hly hIr5) (by omega) _ _ hP hD hS _ (lv_sub hl [1, 2, 0] rfl)
              exact cut_99 (((i : Int) + 1 - (0) : Int).toNat + 1) (0) (0) (F32) (A9) (A10) (hF32) (by omega) (by omega) (fun q hq => absurd hq (Nat.not_lt_zero q)) (by omega) _ _ hP hD hS _ (lv_sub hl [1, 2, 0] rfl)
            · obtain ⟨y, rfl⟩ : ∃ y, x2 = y + 1 := ⟨x2 - 1, by omega⟩
              refine lv_aload_n hx hb dX10_lay_36 rfl (lv_at hl 0 rfl) ?_
              refine pl_get (ci := 9) (v := .ref (a 8)) (C := RX10) (T := TX10) (N := 13) hx hb hts hi_X10 hown hK hP (hF32.2.2.2.2.2.2.2.2.2.2.2.1 0 (by decide)) hF32.1 rfl 10 (by decide) hw_0 (fun _ h9 => h9) rfl dX10_lay_37 ?_
              refine lv_iload_n hx hb dX10_lay_40 rfl (lv_at hl 2 rfl) ?_
              refine pl_zald hx hb hK hP (hF32.2.2.2.2.2.2.2.2.2.2.2.1 8 (by decide)) 1 hF32.2.2.2.2.2.2.2.2.1 rfl (y) (by omega) (by omega) (by decide) dX10_lay_41 ?_
              refine zr_top (hN2 y (by omega)) ?_
              refine zr_ifb_eq (tgt := 91) hx hb dX10_lay_42 (by decide) (fun c6 => ?_) (fun c6 => ?_)
              · refine zr_iinc (k := 2) (lv' := [(2, .int (zI (z3 + (-1)))), (0, .ref (a 0)), (1, .int (zI ((i : Int))))]) hx hb dX10_lay_91 hl rfl (by decide) rfl (fun ls hl => ?_)
                refine lv_goto (tgt := 32) hx hb dX10_lay_94 (by decide) ?_
                exact ih_32 (y) (z3 + (-1)) (bw) (F32) (N2) (hF32) (by omega) (by omega) (by first | exact hN2 | exact ndU_N hN2 _ _) (by first | exact clI_y hcl hyo.1 hyo.2 | exact clI_n hcl (fun q8 _ => b_tf q8 (by assumption)) | exact clI_n hcl (fun _ q8 => absurd q8.1 (by omega)) | exact clI_n hcl (fun _ q8 => absurd q8.2 (by omega))) (by omega) _ _ hP hD hS _ (lv_sub hl [1, 2, 0] rfl)
              · refine lv_aload_n hx hb dX10_lay_45 rfl (lv_at hl 0 rfl) ?_
                refine pl_get (ci := 9) (v := .ref (a 3)) (C := RX10) (T := TX10) (N := 13) hx hb hts hi_X10 hown hK hP (hF32.2.2.2.2.2.2.2.2.2.2.2.1 0 (by decide)) hF32.1 rfl 5 (by decide) hw_1 (fun _ h9 => h9) rfl dX10_lay_46 ?_
                refine lv_iload_n hx hb dX10_lay_49 rfl (lv_at hl 2 rfl) ?_
                refine pl_iald hx hb hK hP (hF32.2.2.2.2.2.2.2.2.2.2.2.1 3 (by decide)) 0 hF32.2.2.2.1 rfl (y) (by omega) (by omega) (by decide) dX10_lay_50 ?_
                refine zr_top (hY.2.2 y (by omega)).1 ?_
                have hwy := (hO.2.2.2.2 y (by omega)).1
                refine zr_bipush hx hb dX10_lay_51 (by decide) ?_
                refine zr_icmp_eq (tgt := 91) hx hb dX10_lay_53 (by decide) (by omega) (by omega) (fun c7 => ?_) (fun c7 => ?_)
                · refine zr_iinc (k := 2) (lv' := [(2, .int (zI (z3 + (-1)))), (0, .ref (a 0)), (1, .int (zI ((i : Int))))]) hx hb dX10_lay_91 hl rfl (by decide) rfl (fun ls hl => ?_)
                  refine lv_goto (tgt := 32) hx hb dX10_lay_94 (by decide) ?_
                  exact ih_32 (y) (z3 + (-1)) (bw) (F32) (N2) (hF32) (by omega) (by omega) (by first | exact hN2 | exact ndU_N hN2 _ _) (by first | exact clI_y hcl hyo.1 hyo.2 | exact clI_n hcl (fun q8 _ => b_tf q8 (by assumption)) | exact clI_n hcl (fun _ q8 => absurd q8.1 (by omega)) | exact clI_n hcl (fun _ q8 => absurd q8.2 (by omega))) (by omega) _ _ hP hD hS _ (lv_sub hl [1, 2, 0] rfl)
                · refine lv_aload_n hx hb dX10_lay_56 rfl (lv_at hl 0 rfl) ?_
                  refine pl_get (ci := 9) (v := .ref (a 3)) (C := RX10) (T := TX10) (N := 13) hx hb hts hi_X10 hown hK hP (hF32.2.2.2.2.2.2.2.2.2.2.2.1 0 (by decide)) hF32.1 rfl 5 (by decide) hw_1 (fun _ h9 => h9) rfl dX10_lay_57 ?_
                  refine lv_iload_n hx hb dX10_lay_60 rfl (lv_at hl 2 rfl) ?_
                  refine pl_iald hx hb hK hP (hF32.2.2.2.2.2.2.2.2.2.2.2.1 3 (by decide)) 0 hF32.2.2.2.1 rfl (y) (by omega) (by omega) (by decide) dX10_lay_61 ?_
                  refine zr_top (hY.2.2 y (by omega)).1 ?_
                  refine zr_bipush hx hb dX10_lay_62 (by decide) ?_
                  refine zr_icmp_eq (tgt := 91) hx hb dX10_lay_64 (by decide) (by omega) (by omega) (fun c8 => ?_) (fun c8 => ?_)
                  · refine zr_iinc (k := 2) (lv' := [(2, .int (zI (z3 + (-1)))), (0, .ref (a 0)), (1, .int (zI ((i : Int))))]) hx hb dX10_lay_91 hl rfl (by decide) rfl (fun ls hl => ?_)
                    refine lv_goto (tgt := 32) hx hb dX10_lay_94 (by decide) ?_
                    exact ih_32 (y) (z3 + (-1)) (bw) (F32) (N2) (hF32) (by omega) (by omega) (by first | exact hN2 | exact ndU_N hN2 _ _) (by first | exact clI_y hcl hyo.1 hyo.2 | exact clI_n hcl (fun q8 _ => b_tf q8 (by assumption)) | exact clI_n hcl (fun _ q8 => absurd q8.1 (by omega)) | exact clI_n hcl (fun _ q8 => absurd q8.2 (by omega))) (by omega) _ _ hP hD hS _ (lv_sub hl [1, 2, 0] rfl)
                  · have hcy : comp S y := ⟨by omega, by omega⟩
                    have hyo := (hO.2.2.2.2 y (by omega)).2.2.2.2.1 hcy
                    refine lv_aload_n hx hb dX10_lay_67 rfl (lv_at hl 0 rfl) ?_
                    refine pl_get (ci := 9) (v := .ref (a 8)) (C := RX10) (T := TX10) (N := 13) hx hb hts hi_X10 hown hK hP (hF32.2.2.2.2.2.2.2.2.2.2.2.1 0 (by decide)) hF32.1 rfl 10 (by decide) hw_0 (fun _ h9 => h9) rfl dX10_lay_68 ?_
                    refine lv_aload_n hx hb dX10_lay_71 rfl (lv_at hl 0 rfl) ?_
                    refine pl_get (ci := 9) (v := .ref (a 4)) (C := RX10) (T := TX10) (N := 13) hx hb hts hi_X10 hown hK hP (hF32.2.2.2.2.2.2.2.2.2.2.2.1 0 (by decide)) hF32.1 rfl 6 (by decide) hw_2 (fun _ h9 => h9) rfl dX10_lay_72 ?_
                    refine lv_iload_n hx hb dX10_lay_75 rfl (lv_at hl 2 rfl) ?_
                    refine pl_iald hx hb hK hP (hF32.2.2.2.2.2.2.2.2.2.2.2.1 4 (by decide)) 0 hF32.2.2.2.2.1 rfl (y) (by omega) (by omega) (by decide) dX10_lay_76 ?_
                    refine zr_top (hY.2.2 y (by omega)).2.1 ?_
                    refine zr_const hx hb dX10_lay_77 ?_
                    refine pl_zast (x := (zI (1))) hx hb hK hP hD hS (hF32.2.2.2.2.2.2.2.2.2.2.2.1 8 (by decide)) 1 hF32.2.2.2.2.2.2.2.2.1 rfl (by decide) ((sO S y)) (by omega) (by omega) (by decide) dX10_lay_78 (fun H locs hP hD hS => ?_)
                    have hP : va_P D vwCl (va_pl L (va_up F32 (a 8) (.inl (k 1, 30, .inl (upd N2 ((sO S y)) (zI (1))))))) H := hP
                    have hD : va_D A (va_pl L (va_up F32 (a 8) (.inl (k 1, 30, .inl (upd N2 ((sO S y)) (zI (1))))))) := hD
                    refine lv_aload_n hx hb dX10_lay_79 rfl (lv_at hl 0 rfl) ?_
                    refine pl_get (ci := 9) (v := .ref (a 8)) (C := RX10) (T := TX10) (N := 13) hx hb hts hi_X10 hown hK hP (hF32.2.2.2.2.2.2.2.2.2.2.2.1 0 (by decide)) ((va_up_ne _ _ (fun e9 => absurd (hM.2.2.2.2.2.2.2.2.2.2.2.2 0 8 (by decide) (by decide) e9) (by decide))).trans hF32.1) rfl 10 (by decide) hw_0 (fun _ h9 => h9) rfl dX10_lay_80 ?_
                    refine lv_aload_n hx hb dX10_lay_83 rfl (lv_at hl 0 rfl) ?_
                    refine pl_get (ci := 9) (v := .ref (a 5)) (C := RX10) (T := TX10) (N := 13) hx hb hts hi_X10 hown hK hP (hF32.2.2.2.2.2.2.2.2.2.2.2.1 0 (by decide)) ((va_up_ne _ _ (fun e9 => absurd (hM.2.2.2.2.2.2.2.2.2.2.2.2 0 8 (by decide) (by decide) e9) (by decide))).trans hF32.1) rfl 7 (by decide) hw_3 (fun _ h9 => h9) rfl dX10_lay_84 ?_
                    refine lv_iload_n hx hb dX10_lay_87 rfl (lv_at hl 2 rfl) ?_
                    refine pl_iald hx hb hK hP (hF32.2.2.2.2.2.2.2.2.2.2.2.1 5 (by decide)) 0 ((va_up_ne _ _ (fun e9 => absurd (hM.2.2.2.2.2.2.2.2.2.2.2.2 5 8 (by decide) (by decide) e9) (by decide))).trans hF32.2.2.2.2.2.1) rfl (y) (by omega) (by omega) (by decide) dX10_lay_88 ?_
                    refine zr_top ((hY.2.2 y (by omega)).2.2.1 (by first | assumption | exact ⟨by omega, by omega⟩)) ?_
                    refine zr_const hx hb dX10_lay_89 ?_
                    refine pl_zast (x := (zI (1))) hx hb hK hP hD hS (hF32.2.2.2.2.2.2.2.2.2.2.2.1 8 (by decide)) 1 (va_up_self _ _ _) rfl (by decide) ((sP S y)) (by omega) (by omega) (by decide) dX10_lay_90 (fun H locs hP hD hS => ?_)
                    rw [bx_uu] at hP hD
                    have hP : va_P D vwCl (va_pl L (va_up F32 (a 8) (.inl (k 1, 30, .inl (upd ((upd N2 ((sO S y)) (zI (1)))) ((sP S y)) (zI (1))))))) H := hP
                    have hD : va_D A (va_pl L (va_up F32 (a 8) (.inl (k 1, 30, .inl (upd ((upd N2 ((sO S y)) (zI (1)))) ((sP S y)) (zI (1))))))) := hD
                    refine zr_iinc (k := 2) (lv' := [(2, .int (zI (z3 + (-1)))), (0, .ref (a 0)), (1, .int (zI ((i : Int))))]) hx hb dX10_lay_91 hl rfl (by decide) rfl (fun ls hl => ?_)
                    refine lv_goto (tgt := 32) hx hb dX10_lay_94 (by decide) ?_
                    exact ih_32 (y) (z3 + (-1)) (ndU bw (sO S y) (sP S y)) (va_up F32 (a 8) (.inl (k 1, 30, .inl (upd ((upd N2 ((sO S y)) (zI (1)))) ((sP S y)) (zI (1)))))) ((upd ((upd N2 ((sO S y)) (zI (1)))) ((sP S y)) (zI (1)))) ((mRep.s8 hF32 _)) (by omega) (by omega) (by first | exact hN2 | exact ndU_N hN2 _ _) (by first | exact clI_y hcl hyo.1 hyo.2 | exact clI_n hcl (fun q8 _ => b_tf q8 (by assumption)) | exact clI_n hcl (fun _ q8 => absurd q8.1 (by omega)) | exact clI_n hcl (fun _ q8 => absurd q8.2 (by omega))) (by omega) _ _ hP hD hS _ (lv_sub hl [1, 2, 0] rfl)
        exact cut_32 ((((i : Int)) + 1 : Int).toNat + 1) (i + 1) ((i : Int)) (fun q => decide (q = i)) (F2) (N1) (hF2) (by omega) (by omega) (fun q hq => hN1 q (by omega)) (clI_0) (by omega) _ _ hP hD hS _ (lv_sub hl [1, 2, 0] rfl)
      · refine lv_aload_n hx hb dX10_lay_8 rfl (lv_at hl 0 rfl) ?_
        refine pl_get (ci := 9) (v := .ref (a 8)) (C := RX10) (T := TX10) (N := 13) hx hb hts hi_X10 hown hK hP (hF2.2.2.2.2.2.2.2.2.2.2.2.1 0 (by decide)) hF2.1 rfl 10 (by decide) hw_0 (fun _ h9 => h9) rfl dX10_lay_9 ?_
        refine lv_iload_n hx hb dX10_lay_12 rfl (lv_at hl 2 rfl) ?_
        refine lv_iload_n hx hb dX10_lay_13 rfl (lv_at hl 2 rfl) ?_
        refine lv_iload_n hx hb dX10_lay_14 rfl (lv_at hl 1 rfl) ?_
        refine zr_icmp_ne (tgt := 22) hx hb dX10_lay_15 (by decide) (by omega) (by omega) (fun c9 => ?_) (fun c9 => ?_)
        · refine zr_const hx hb dX10_lay_22 ?_
          refine zr_top (y := bI false) (by decide) ?_
          refine pl_zast (x := (bI false)) hx hb hK hP hD hS (hF2.2.2.2.2.2.2.2.2.2.2.2.1 8 (by decide)) 1 hF2.2.2.2.2.2.2.2.2.1 rfl (bI_nar _) (x) (by omega) (by omega) (by decide) dX10_lay_23 (fun H locs hP hD hS => ?_)
          have hP : va_P D vwCl (va_pl L (va_up F2 (a 8) (.inl (k 1, 30, .inl (upd N1 (x) (bI false)))))) H := hP
          have hD : va_D A (va_pl L (va_up F2 (a 8) (.inl (k 1, 30, .inl (upd N1 (x) (bI false)))))) := hD
          refine zr_iinc (k := 2) (lv' := [(2, .int (zI (z2 + 1))), (0, .ref (a 0)), (1, .int (zI ((i : Int))))]) hx hb dX10_lay_24 hl rfl (by decide) rfl (fun ls hl => ?_)
          refine lv_goto (tgt := 2) hx hb dX10_lay_27 (by decide) ?_
          exact ih_2 (x + 1) (z2 + 1) (va_up F2 (a 8) (.inl (k 1, 30, .inl (upd N1 (x) (bI false))))) ((upd N1 (x) (bI false))) ((mRep.s8 hF2 _)) (by omega) (by omega) (updz hN1 (by first | rw [decide_eq_true (show x = i by omega)] | rw [decide_eq_false (show ¬ x = i by omega)])) (by omega) _ _ hP hD hS _ (lv_sub hl [1, 2, 0] rfl)
        · refine zr_const hx hb dX10_lay_18 ?_
          refine lv_goto (tgt := 23) hx hb dX10_lay_19 (by decide) ?_
          refine zr_top (y := bI true) (by decide) ?_
          refine pl_zast (x := (bI true)) hx hb hK hP hD hS (hF2.2.2.2.2.2.2.2.2.2.2.2.1 8 (by decide)) 1 hF2.2.2.2.2.2.2.2.2.1 rfl (bI_nar _) (x) (by omega) (by omega) (by decide) dX10_lay_23 (fun H locs hP hD hS => ?_)
          have hP : va_P D vwCl (va_pl L (va_up F2 (a 8) (.inl (k 1, 30, .inl (upd N1 (x) (bI true)))))) H := hP
          have hD : va_D A (va_pl L (va_up F2 (a 8) (.inl (k 1, 30, .inl (upd N1 (x) (bI true)))))) := hD
          refine zr_iinc (k := 2) (lv' := [(2, .int (zI (z2 + 1))), (0, .ref (a 0)), (1, .int (zI ((i : Int))))]) hx hb dX10_lay_24 hl rfl (by decide) rfl (fun ls hl => ?_)
          refine lv_goto (tgt := 2) hx hb dX10_lay_27 (by decide) ?_
          exact ih_2 (x + 1) (z2 + 1) (va_up F2 (a 8) (.inl (k 1, 30, .inl (upd N1 (x) (bI true))))) ((upd N1 (x) (bI true))) ((mRep.s8 hF2 _)) (by omega) (by omega) (updz hN1 (by first | rw [decide_eq_true (show x = i by omega)] | rw [decide_eq_false (show ¬ x = i by omega)])) (by omega) _ _ hP hD hS _ (lv_sub hl [1, 2, 0] rfl)
  exact cut_2 ((30 - (0) : Int).toNat + 1) (0) (0) (f) (A8) (hM) (by omega) (by omega) (fun q hq => absurd hq (Nat.not_lt_zero q)) (by omega) _ _ hP hD hS _ (lv_sub hl [1, 2, 0] rfl)

set_option maxHeartbeats 4000000 in
set_option maxRecDepth 100000 in
theorem kX10_canAsk (l : Launch) (D : va_G) (k : Nat → ClassId) (L : List Nat) (f : Nat → va_E) (S : SA) (hO : aOK S) (a : Nat → Nat) (tw : Int) (A1 A2 A3 A4 A5 A6 A7 A8 A9 A10 : Nat → Int32) (hM : mRep k L f a tw ((sN S)) ((sC S : Int)) A1 A2 A3 A4 A5 A6 A7 A8 A9 A10) (hMT : 0 ≤ tw ∧ tw ≤ 3) (hY : mSync S A1 A2 A3 A4 A5 A6 A7) (i : Nat) (hi : i < sC S) (n0 sz : Nat) : Met l yX10_canAsk wsX10_canAsk ({ frames := 5, cells := 0, slots := 0, locals := 119 } : Room) (va_Pc [.ref (a 0), .int (zI ((i : Int)))] (pPre D (tyL k) n0 (va_pl L f) sz)) (va_Qi (fun r9 u => r9 = bI true ∧ ∃ (F : Nat → va_E) (N3 R V : Nat → Int32), u = va_pl L F ∧ mRep k L F a 0 ((sN S)) ((sC S : Int)) A1 A2 A3 A4 A5 A6 A7 N3 R V ∧ Rq R i (sem S i)) (pB D (va_pl L f) sz) (va_A (va_pl L f) sz)) 0 0 (va_A (va_pl L f) sz) := by
  refine Met.ofW (cc := cX10_canAsk) (maxL := 2) (ret := (some .boolean)) (by decide) rfl ?_
  intro p e s m args below meth c s₁ B hml hv
  obtain ⟨rfl, hsz, hn9, hP, hC, hD0⟩ := hv
  have hK := hC.1
  have hNW := hC.2.1
  have hx := B.exec
  have hb := B.bytes
  have hrt := B.returns
  have hts := atoms_spec (ws := wsX10_canAsk) B.pre
  have hown : s.vm.findClass RX10 = some m.cls := findClass_of_methodNamed B.named
  have hlocks := B.notSynchronized
  subst hsz
  obtain ⟨A, hAd⟩ : ∃ A, A = va_A (va_pl L f) s.heap.size := ⟨_, rfl⟩
  have hD := hD0.self (sz := s.heap.size)
  rw [← hAd] at hD
  have hA : ∀ q : Nat, s.heap.size ≤ q → A q := fun q h => by rw [hAd]; exact Or.inr h
  have hAn : ∀ q : Nat, A q → n0 ≤ q := fun q h => by
    rw [hAd] at h
    rcases h with ⟨k9, e9, hk9⟩ | h
    · exact hD0.2 k9 _ hk9
    · exact Nat.le_trans hn9 h
  have hS : va_S A s.heap s.heap [] := va_S.rf
  have hl := lv_entry ([.ref (a 0), .int (zI ((i : Int)))]) (n := 2) (Nat.le_of_ble_eq_true rfl)
  rw [lg_entry_eq]
  generalize (lg_sl ([.ref (a 0), .int (zI ((i : Int)))]) ++ List.replicate (2 - (lg_sl ([.ref (a 0), .int (zI ((i : Int)))])).length) Slot.unset).toArray = ls at hl ⊢
  have hl : lv_has ls 2 [(0, .ref (a 0)), (1, .int (zI ((i : Int))))] := hl
  obtain ⟨Q, hQ⟩ : ∃ Q, Q = MQ below (va_Qi (fun r9 u => r9 = bI true ∧ ∃ (F : Nat → va_E) (N3 R V : Nat → Int32), u = va_pl L F ∧ mRep k L F a 0 ((sN S)) ((sC S : Int)) A1 A2 A3 A4 A5 A6 A7 N3 R V ∧ Rq R i (sem S i)) (pB D (va_pl L f) s.heap.size) (va_A (va_pl L f) s.heap.size)) ([.ref (a 0), .int (zI ((i : Int)))] : List Value).toArray s 0 0 (va_A (va_pl L f) s.heap.size) := ⟨_, rfl⟩
  rw [← hQ]
  have hMN := hO.1
  have hMC : 0 ≤ (sC S : Int) ∧ (sC S : Int) ≤ 30 := by have h8 := hO.2.2.2.1; omega
  refine lv_aload_n hx hb dX10_canAsk_0 rfl (lv_at hl 0 rfl) ?_
  refine lv_aload_n hx hb dX10_canAsk_1 rfl (lv_at hl 0 rfl) ?_
  refine lv_iload_n hx hb dX10_canAsk_2 rfl (lv_at hl 1 rfl) ?_
  refine vp_callSi (va_Run.run (va_runV (As := [.int (zI ((i : Int)))]) (rest := [.ref (a 0)]) ⟨hx, hb, hml, hown, hts⟩ (kX10_isNode l D k L f a tw ((sN S)) ((sC S : Int)) A1 A2 A3 A4 A5 A6 A7 A8 A9 A10 hM (by omega) (by omega) (by omega) ((i : Int)) (by omega)) (cwV 1 hts gX10_canAsk_X10_isNode rfl rfl rfl (by decide +kernel) ⟨Nat.le_of_ble_eq_true rfl, Nat.le_of_ble_eq_true rfl⟩) (rc_preV hC hP (pl_recv hK hP (hM.2.2.2.2.2.2.2.2.2.2.2.1 0 (by decide)) hM.1 (ci := 9) (q := (RX10, TX10, 13)) rfl)) rfl rfl hl.1 rfl (lv_room (Nat.le_of_ble_eq_true rfl)) dX10_canAsk_3 ⟨Nat.zero_le _, Nat.zero_le _⟩)) (fun r1 hr1 => ?_)
  subst hr1
  refine zr_ifb_eq (tgt := 13) hx hb dX10_canAsk_6 (by decide) (fun c2 => ?_) (fun c2 => ?_)
  · have hn_c2 := inB_n c2
    exact b_tf (inB_t (by omega)) c2 |>.elim
  · have hn_c2 := inB_i c2
    refine zr_const hx hb dX10_canAsk_9 ?_
    refine lv_goto (tgt := 14) hx hb dX10_canAsk_10 (by decide) ?_
    refine pc_calli (va_runV (As := [.int (zI (0))]) (rest := []) ⟨hx, hb, hml, hown, hts⟩ (kX10_goesWell l D k L f a tw ((sN S)) ((sC S : Int)) A1 A2 A3 A4 A5 A6 A7 A8 A9 A10 hM (by omega) (by omega) (by omega) (0) (by omega) n0 _) (cwV 1 hts gX10_canAsk_X10_goesWell rfl rfl rfl (by decide +kernel) ⟨Nat.le_of_ble_eq_true rfl, Nat.le_of_ble_eq_true rfl⟩) (pc_preV hC hP (Nat.le_trans hn9 hS.1) hD hAn (pl_recv hK hP (hM.2.2.2.2.2.2.2.2.2.2.2.1 0 (by decide)) hM.1 (ci := 9) (q := (RX10, TX10, 13)) rfl)) rfl rfl hl.1 rfl (lv_room (Nat.le_of_ble_eq_true rfl)) dX10_canAsk_14 ⟨Nat.zero_le _, Nat.zero_le _⟩) hD hS hA (fun r3 ur3 H locs hr3 hP hD hS hzr3 => ?_)
    obtain ⟨hvr3, Fr3, hwr3, hMr3⟩ := hr3
    have hvr3 : r3 = bI (decide ((0 : Int) = 0)) := hvr3
    subst hvr3
    have hwr3 : ur3 = va_pl L Fr3 := hwr3
    subst hwr3
    refine zr_ifb_ne (tgt := 22) hx hb dX10_canAsk_17 (by decide) (fun c4 => ?_) (fun c4 => ?_)
    · refine lv_aload_n hx hb dX10_canAsk_22 rfl (lv_at hl 0 rfl) ?_
      refine lv_iload_n hx hb dX10_canAsk_23 rfl (lv_at hl 1 rfl) ?_
      refine pc_callv (va_runV (As := [.int (zI ((i : Int)))]) (rest := []) ⟨hx, hb, hml, hown, hts⟩ (kX10_lay l D k L Fr3 S hO a 0 A1 A2 A3 A4 A5 A6 A7 A8 A9 A10 hMr3 (by omega) hY i hi n0 _) (cwV 1 hts gX10_canAsk_X10_lay rfl rfl rfl (by decide +kernel) ⟨Nat.le_of_ble_eq_true rfl, Nat.le_of_ble_eq_true rfl⟩) (pc_preV hC hP (Nat.le_trans hn9 hS.1) hD hAn (pl_recv hK hP (hMr3.2.2.2.2.2.2.2.2.2.2.2.1 0 (by decide)) hMr3.1 (ci := 9) (q := (RX10, TX10, 13)) rfl)) rfl rfl hl.1 rfl (lv_room (Nat.le_of_ble_eq_true rfl)) dX10_canAsk_24 ⟨Nat.zero_le _, Nat.zero_le _⟩) hD hS hA (fun ur5 H locs hr5 hP hD hS hzr5 => ?_)
      obtain ⟨Fr5, Nr5, Rr5, Vr5, hwr5, hMr5, hQr5⟩ := hr5
      have hwr5 : ur5 = va_pl L Fr5 := hwr5
      subst hwr5
      refine zr_const hx hb dX10_canAsk_27 ?_
      rw [hQ]
      refine zr_top (y := bI (true)) (by decide) ?_
      exact pc_zret hx hb hrt hP (by rw [← hAd]; exact hD) (by rw [← hAd]; exact hS) (⟨rfl, _, _, _, _, rfl, hMr5, hQr5⟩) dX10_canAsk_28 hlocks
    · exact absurd c4 (by decide)

set_option maxHeartbeats 4000000 in
set_option maxRecDepth 100000 in
theorem kX10_canAsk_n (l : Launch) (D : va_G) (k : Nat → ClassId) (L : List Nat) (f : Nat → va_E) (S : SA) (hO : aOK S) (a : Nat → Nat) (tw : Int) (A1 A2 A3 A4 A5 A6 A7 A8 A9 A10 : Nat → Int32) (hM : mRep k L f a tw ((sN S)) ((sC S : Int)) A1 A2 A3 A4 A5 A6 A7 A8 A9 A10) (hMT : 0 ≤ tw ∧ tw ≤ 3) (hY : mSync S A1 A2 A3 A4 A5 A6 A7) (z : Int) (hz : -2147483648 ≤ z ∧ z < 2147483648) (hz2 : ¬ (0 ≤ z ∧ z < (sC S : Int))) (n0 sz : Nat) : Met l yX10_canAsk wsX10_canAsk ({ frames := 2, cells := 0, slots := 0, locals := 43 } : Room) (va_Pc [.ref (a 0), .int (zI (z))] (pPre D (tyL k) n0 (va_pl L f) sz)) (va_Qi (fun r9 u => r9 = bI false ∧ ∃ F : Nat → va_E, u = va_pl L F ∧ mRep k L F a 1 ((sN S)) ((sC S : Int)) A1 A2 A3 A4 A5 A6 A7 A8 A9 A10) (pB D (va_pl L f) sz) (va_A (va_pl L f) sz)) 0 0 (va_A (va_pl L f) sz) := by
  refine Met.ofW (cc := cX10_canAsk) (maxL := 2) (ret := (some .boolean)) (by decide) rfl ?_
  intro p e s m args below meth c s₁ B hml hv
  obtain ⟨rfl, hsz, hn9, hP, hC, hD0⟩ := hv
  have hK := hC.1
  have hNW := hC.2.1
  have hx := B.exec
  have hb := B.bytes
  have hrt := B.returns
  have hts := atoms_spec (ws := wsX10_canAsk) B.pre
  have hown : s.vm.findClass RX10 = some m.cls := findClass_of_methodNamed B.named
  have hlocks := B.notSynchronized
  subst hsz
  obtain ⟨A, hAd⟩ : ∃ A, A = va_A (va_pl L f) s.heap.size := ⟨_, rfl⟩
  have hD := hD0.self (sz := s.heap.size)
  rw [← hAd] at hD
  have hA : ∀ q : Nat, s.heap.size ≤ q → A q := fun q h => by rw [hAd]; exact Or.inr h
  have hAn : ∀ q : Nat, A q → n0 ≤ q := fun q h => by
    rw [hAd] at h
    rcases h with ⟨k9, e9, hk9⟩ | h
    · exact hD0.2 k9 _ hk9
    · exact Nat.le_trans hn9 h
  have hS : va_S A s.heap s.heap [] := va_S.rf
  have hl := lv_entry ([.ref (a 0), .int (zI (z))]) (n := 2) (Nat.le_of_ble_eq_true rfl)
  rw [lg_entry_eq]
  generalize (lg_sl ([.ref (a 0), .int (zI (z))]) ++ List.replicate (2 - (lg_sl ([.ref (a 0), .int (zI (z))])).length) Slot.unset).toArray = ls at hl ⊢
  have hl : lv_has ls 2 [(0, .ref (a 0)), (1, .int (zI (z)))] := hl
  obtain ⟨Q, hQ⟩ : ∃ Q, Q = MQ below (va_Qi (fun r9 u => r9 = bI false ∧ ∃ F : Nat → va_E, u = va_pl L F ∧ mRep k L F a 1 ((sN S)) ((sC S : Int)) A1 A2 A3 A4 A5 A6 A7 A8 A9 A10) (pB D (va_pl L f) s.heap.size) (va_A (va_pl L f) s.heap.size)) ([.ref (a 0), .int (zI (z))] : List Value).toArray s 0 0 (va_A (va_pl L f) s.heap.size) := ⟨_, rfl⟩
  rw [← hQ]
  have hMN := hO.1
  have hMC : 0 ≤ (sC S : Int) ∧ (sC S : Int) ≤ 30 := by have h8 := hO.2.2.2.1; omega
  refine lv_aload_n hx hb dX10_canAsk_0 rfl (lv_at hl 0 rfl) ?_
  refine lv_aload_n hx hb dX10_canAsk_1 rfl (lv_at hl 0 rfl) ?_
  refine lv_iload_n hx hb dX10_canAsk_2 rfl (lv_at hl 1 rfl) ?_
  refine vp_callSi (va_Run.run (va_runV (As := [.int (zI (z))]) (rest := [.ref (a 0)]) ⟨hx, hb, hml, hown, hts⟩ (kX10_isNode l D k L f a tw ((sN S)) ((sC S : Int)) A1 A2 A3 A4 A5 A6 A7 A8 A9 A10 hM (by omega) (by omega) (by omega) (z) (by omega)) (cwV 1 hts gX10_canAsk_X10_isNode rfl rfl rfl (by decide +kernel) ⟨Nat.le_of_ble_eq_true rfl, Nat.le_of_ble_eq_true rfl⟩) (rc_preV hC hP (pl_recv hK hP (hM.2.2.2.2.2.2.2.2.2.2.2.1 0 (by decide)) hM.1 (ci := 9) (q := (RX10, TX10, 13)) rfl)) rfl rfl hl.1 rfl (lv_room (Nat.le_of_ble_eq_true rfl)) dX10_canAsk_3 ⟨Nat.zero_le _, Nat.zero_le _⟩)) (fun r1 hr1 => ?_)
  subst hr1
  refine zr_ifb_eq (tgt := 13) hx hb dX10_canAsk_6 (by decide) (fun c2 => ?_) (fun c2 => ?_)
  · have hn_c2 := inB_n c2
    refine zr_const hx hb dX10_canAsk_13 ?_
    refine pc_calli (va_runV (As := [.int (zI (1))]) (rest := []) ⟨hx, hb, hml, hown, hts⟩ (kX10_goesWell l D k L f a tw ((sN S)) ((sC S : Int)) A1 A2 A3 A4 A5 A6 A7 A8 A9 A10 hM (by omega) (by omega) (by omega) (1) (by omega) n0 _) (cwV 1 hts gX10_canAsk_X10_goesWell rfl rfl rfl (by decide +kernel) ⟨Nat.le_of_ble_eq_true rfl, Nat.le_of_ble_eq_true rfl⟩) (pc_preV hC hP (Nat.le_trans hn9 hS.1) hD hAn (pl_recv hK hP (hM.2.2.2.2.2.2.2.2.2.2.2.1 0 (by decide)) hM.1 (ci := 9) (q := (RX10, TX10, 13)) rfl)) rfl rfl hl.1 rfl (lv_room (Nat.le_of_ble_eq_true rfl)) dX10_canAsk_14 ⟨Nat.zero_le _, Nat.zero_le _⟩) hD hS hA (fun r3 ur3 H locs hr3 hP hD hS hzr3 => ?_)
    obtain ⟨hvr3, Fr3, hwr3, hMr3⟩ := hr3
    have hvr3 : r3 = bI (decide ((1 : Int) = 0)) := hvr3
    subst hvr3
    have hwr3 : ur3 = va_pl L Fr3 := hwr3
    subst hwr3
    refine zr_ifb_ne (tgt := 22) hx hb dX10_canAsk_17 (by decide) (fun c4 => ?_) (fun c4 => ?_)
    · exact absurd c4 (by decide)
    · refine zr_const hx hb dX10_canAsk_20 ?_
      rw [hQ]
      refine zr_top (y := bI (false)) (by decide) ?_
      exact pc_zret hx hb hrt hP (by rw [← hAd]; exact hD) (by rw [← hAd]; exact hS) (⟨rfl, _, rfl, hMr3⟩) dX10_canAsk_21 hlocks
  · have hn_c2 := inB_i c2
    exact (b_tf c2 (inB_f (by omega))).elim
