set_option maxHeartbeats 4000000 in
set_option maxRecDepth 100000 in
theorem kL_areAlike (l : Launch) (D : va_G) (k : Nat → ClassId) (L : List Nat) (f : Nat → va_E) (g : CG) (S : SA) (hR : cRep k L f g S) (hO : aOK S) (L2 : List Nat) (f2 : Nat → va_E) (g2 : CG) (T : SA) (hR2 : cRep k L2 f2 g2 T) (hO2 : aOK T) (hE : eqS S T) : Met l yL_areAlike wsL_areAlike ({ frames := 3, cells := 0, slots := 0, locals := 63 } : Room) (va_Pc [.ref (gA g 0), .ref (gA g2 0)] (rPre D (tyL k) (va_pl L f ++ va_pl L2 f2))) (vp_Si (fun r9 => r9 = bI true)) 0 0 (fun _ => False) := by
  refine Met.ofW (cc := cL_areAlike) (maxL := 4) (ret := (some .boolean)) (by decide) rfl ?_
  intro p e s m args below meth c s₁ B hml hv
  obtain ⟨rfl, hP, hC⟩ := hv
  have hK := hC.1
  have hNW := hC.2.1
  have hx := B.exec
  have hb := B.bytes
  have hrt := B.returns
  have hts := atoms_spec (ws := wsL_areAlike) B.pre
  have hown : s.vm.findClass RL = some m.cls := findClass_of_methodNamed B.named
  have hlocks := B.notSynchronized
  have hl := lv_entry ([.ref (gA g 0), .ref (gA g2 0)]) (n := 4) (Nat.le_of_ble_eq_true rfl)
  rw [lg_entry_eq]
  generalize (lg_sl ([.ref (gA g 0), .ref (gA g2 0)]) ++ List.replicate (4 - (lg_sl ([.ref (gA g 0), .ref (gA g2 0)])).length) Slot.unset).toArray = ls at hl ⊢
  have hl : lv_has ls 4 [(0, .ref (gA g 0)), (1, .ref (gA g2 0))] := hl
  obtain ⟨Q, hQ⟩ : ∃ Q, Q = MQ below (vp_Si (fun r9 => r9 = bI true)) ([.ref (gA g 0), .ref (gA g2 0)] : List Value).toArray s 0 0 (fun _ => False) := ⟨_, rfl⟩
  rw [← hQ]
  have hn0 := hO.1
  have hc0 := hO.2.2.2.1
  have hn2 := hO2.1
  have hc2 := hO2.2.2.2.1
  have e1 := hE.1
  have e4 := hE.2.2.2.1
  refine lv_aload_n hx hb dL_areAlike_0 rfl (lv_at hl 0 rfl) ?_
  refine vp_callSi (va_Run.run (va_runV (As := []) (rest := []) ⟨hx, hb, hml, hown, hts⟩ (kX9_length l D k L f g S hR hO) (cwV 0 hts gL_areAlike_X9_length rfl rfl rfl (by decide +kernel) ⟨Nat.le_of_ble_eq_true rfl, Nat.le_of_ble_eq_true rfl⟩) (rc_preV hC (vaP_l hP) (pl_recv hK (vaP_l hP) (hR.2.1 0 (by decide)) hR.1.1 (ci := 8) (q := (RX9, TX9, 3)) rfl)) rfl rfl hl.1 rfl (lv_room (Nat.le_of_ble_eq_true rfl)) dL_areAlike_1 ⟨Nat.zero_le _, Nat.zero_le _⟩)) (fun r1 hr1 => ?_)
  subst hr1
  refine lv_aload_n hx hb dL_areAlike_4 rfl (lv_at hl 1 rfl) ?_
  refine vp_callSi (va_Run.run (va_runV (As := []) (rest := [.int (zI ((sN S)))]) ⟨hx, hb, hml, hown, hts⟩ (kX9_length l D k L2 f2 g2 T hR2 hO2) (cwV 0 hts gL_areAlike_X9_length rfl rfl rfl (by decide +kernel) ⟨Nat.le_of_ble_eq_true rfl, Nat.le_of_ble_eq_true rfl⟩) (rc_preV hC (vaP_r hP) (pl_recv hK (vaP_r hP) (hR2.2.1 0 (by decide)) hR2.1.1 (ci := 8) (q := (RX9, TX9, 3)) rfl)) rfl rfl hl.1 rfl (lv_room (Nat.le_of_ble_eq_true rfl)) dL_areAlike_5 ⟨Nat.zero_le _, Nat.zero_le _⟩)) (fun r2 hr2 => ?_)
  subst hr2
  refine zr_icmp_ne (tgt := 26) hx hb dL_areAlike_8 (by decide) (by omega) (by omega) (fun c3 => ?_) (fun c3 => ?_)
  · exfalso; omega
  · refine lv_aload_n hx hb dL_areAlike_11 rfl (lv_at hl 0 rfl) ?_
    refine vp_callSi (va_Run.run (va_runV (As := []) (rest := []) ⟨hx, hb, hml, hown, hts⟩ (kX9_nodes l D k L f g S hR hO) (cwV 0 hts gL_areAlike_X9_nodes rfl rfl rfl (by decide +kernel) ⟨Nat.le_of_ble_eq_true rfl, Nat.le_of_ble_eq_true rfl⟩) (rc_preV hC (vaP_l hP) (pl_recv hK (vaP_l hP) (hR.2.1 0 (by decide)) hR.1.1 (ci := 8) (q := (RX9, TX9, 3)) rfl)) rfl rfl hl.1 rfl (lv_room (Nat.le_of_ble_eq_true rfl)) dL_areAlike_12 ⟨Nat.zero_le _, Nat.zero_le _⟩)) (fun r4 hr4 => ?_)
    subst hr4
    refine lv_aload_n hx hb dL_areAlike_15 rfl (lv_at hl 1 rfl) ?_
    refine vp_callSi (va_Run.run (va_runV (As := []) (rest := [.int (zI ((sC S : Int)))]) ⟨hx, hb, hml, hown, hts⟩ (kX9_nodes l D k L2 f2 g2 T hR2 hO2) (cwV 0 hts gL_areAlike_X9_nodes rfl rfl rfl (by decide +kernel) ⟨Nat.le_of_ble_eq_true rfl, Nat.le_of_ble_eq_true rfl⟩) (rc_preV hC (vaP_r hP) (pl_recv hK (vaP_r hP) (hR2.2.1 0 (by decide)) hR2.1.1 (ci := 8) (q := (RX9, TX9, 3)) rfl)) rfl rfl hl.1 rfl (lv_room (Nat.le_of_ble_eq_true rfl)) dL_areAlike_16 ⟨Nat.zero_le _, Nat.zero_le _⟩)) (fun r5 hr5 => ?_)
    subst hr5
    refine zr_icmp_ne (tgt := 26) hx hb dL_areAlike_19 (by decide) (by omega) (by omega) (fun c6 => ?_) (fun c6 => ?_)
    · exfalso; omega
    · refine zr_const hx hb dL_areAlike_22 ?_
      refine lv_goto (tgt := 27) hx hb dL_areAlike_23 (by decide) ?_
      refine lv_istore_n (lv' := [(2, .int (zI (1))), (0, .ref (gA g 0)), (1, .ref (gA g2 0))]) hx hb dL_areAlike_27 rfl hl (by decide) rfl (fun ls hl => ?_)
      refine zr_const hx hb dL_areAlike_28 ?_
      refine lv_istore_n (lv' := [(3, .int (zI (0))), (2, .int (zI (1))), (0, .ref (gA g 0)), (1, .ref (gA g2 0))]) hx hb dL_areAlike_29 rfl hl (by decide) rfl (fun ls hl => ?_)
      have cut_30 : ∀ (n9 : Nat) (z3 : Int), (0 ≤ z3 ∧ z3 ≤ sN S) → sN S - z3 < (n9 : Int) → ∀ (ls : Array Slot), lv_has ls 4 [(0, .ref (gA g 0)), (1, .ref (gA g2 0)), (2, .int (zI (1))), (3, .int (zI (z3)))] → W p l e (headSpec wsL_areAlike ({ frames := 3, cells := 0, slots := 0, locals := 63 } : Room)).room s m ([.ref (gA g 0), .ref (gA g2 0)] : List Value).toArray below meth c s.heap [] 0 0 Q (F0 m 30 ls []) := by
        intro n9
        induction n9 with
        | zero =>
          intro z3 hz3 hfu
          exact absurd hfu (by omega)
        | succ n9 ih_30 =>
          intro z3 hz3 hfu ls hl
          refine lv_iload_n hx hb dL_areAlike_30 rfl (lv_at hl 3 rfl) ?_
          refine lv_aload_n hx hb dL_areAlike_31 rfl (lv_at hl 0 rfl) ?_
          refine vp_callSi (va_Run.run (va_runV (As := []) (rest := [.int (zI (z3))]) ⟨hx, hb, hml, hown, hts⟩ (kX9_length l D k L f g S hR hO) (cwV 0 hts gL_areAlike_X9_length rfl rfl rfl (by decide +kernel) ⟨Nat.le_of_ble_eq_true rfl, Nat.le_of_ble_eq_true rfl⟩) (rc_preV hC (vaP_l hP) (pl_recv hK (vaP_l hP) (hR.2.1 0 (by decide)) hR.1.1 (ci := 8) (q := (RX9, TX9, 3)) rfl)) rfl rfl hl.1 rfl (lv_room (Nat.le_of_ble_eq_true rfl)) dL_areAlike_32 ⟨Nat.zero_le _, Nat.zero_le _⟩)) (fun r7 hr7 => ?_)
          subst hr7
          refine zr_icmp_ge (tgt := 67) hx hb dL_areAlike_35 (by decide) (by omega) (by omega) (fun c8 => ?_) (fun c8 => ?_)
          · refine lv_iload_n hx hb dL_areAlike_67 rfl (lv_at hl 2 rfl) ?_
            rw [hQ]
            refine zr_top (y := bI (true)) (by decide) ?_
            exact rc_zret hx hb hrt (rfl) dL_areAlike_68 hlocks
          · refine lv_iload_n hx hb dL_areAlike_38 rfl (lv_at hl 2 rfl) ?_
            refine zr_if_eq (tgt := 67) hx hb dL_areAlike_39 (by decide) (by omega) (fun c9 => ?_) (fun c9 => ?_)
            · exact absurd c9 (by omega)
            · refine lv_aload_n hx hb dL_areAlike_42 rfl (lv_at hl 0 rfl) ?_
              refine lv_iload_n hx hb dL_areAlike_43 rfl (lv_at hl 3 rfl) ?_
              refine vp_callSi (va_Run.run (va_runV (As := [.int (zI (z3))]) (rest := []) ⟨hx, hb, hml, hown, hts⟩ (kX9_letterAt l D k L f g S hR hO (z3) (by omega)) (cwV 1 hts gL_areAlike_X9_letterAt rfl rfl rfl (by decide +kernel) ⟨Nat.le_of_ble_eq_true rfl, Nat.le_of_ble_eq_true rfl⟩) (rc_preV hC (vaP_l hP) (pl_recv hK (vaP_l hP) (hR.2.1 0 (by decide)) hR.1.1 (ci := 8) (q := (RX9, TX9, 3)) rfl)) rfl rfl hl.1 rfl (lv_room (Nat.le_of_ble_eq_true rfl)) dL_areAlike_44 ⟨Nat.zero_le _, Nat.zero_le _⟩)) (fun r10 hr10 => ?_)
              subst hr10
              refine lv_aload_n hx hb dL_areAlike_47 rfl (lv_at hl 1 rfl) ?_
              refine lv_iload_n hx hb dL_areAlike_48 rfl (lv_at hl 3 rfl) ?_
              refine vp_callSi (va_Run.run (va_runV (As := [.int (zI (z3))]) (rest := [.int (sT S (z3).toNat)]) ⟨hx, hb, hml, hown, hts⟩ (kX9_letterAt l D k L2 f2 g2 T hR2 hO2 (z3) (by omega)) (cwV 1 hts gL_areAlike_X9_letterAt rfl rfl rfl (by decide +kernel) ⟨Nat.le_of_ble_eq_true rfl, Nat.le_of_ble_eq_true rfl⟩) (rc_preV hC (vaP_r hP) (pl_recv hK (vaP_r hP) (hR2.2.1 0 (by decide)) hR2.1.1 (ci := 8) (q := (RX9, TX9, 3)) rfl)) rfl rfl hl.1 rfl (lv_room (Nat.le_of_ble_eq_true rfl)) dL_areAlike_49 ⟨Nat.zero_le _, Nat.zero_le _⟩)) (fun r11 hr11 => ?_)
              subst hr11
              refine lv_icmp_ne (tgt := 59) hx hb dL_areAlike_52 (by decide) (fun c12 => ?_) (fun c12 => ?_)
              · exact absurd (hE.2.1 (z3).toNat (by omega)) c12
              · refine zr_const hx hb dL_areAlike_55 ?_
                refine lv_goto (tgt := 60) hx hb dL_areAlike_56 (by decide) ?_
                refine lv_istore_n (lv' := [(2, .int (zI (1))), (0, .ref (gA g 0)), (1, .ref (gA g2 0)), (3, .int (zI (z3)))]) hx hb dL_areAlike_60 rfl hl (by decide) rfl (fun ls hl => ?_)
                refine zr_iinc (k := 3) (lv' := [(3, .int (zI (z3 + 1))), (2, .int (zI (1))), (0, .ref (gA g 0)), (1, .ref (gA g2 0))]) hx hb dL_areAlike_61 hl rfl (by decide) rfl (fun ls hl => ?_)
                refine lv_goto (tgt := 30) hx hb dL_areAlike_64 (by decide) ?_
                exact ih_30 (z3 + 1) (by omega) (by omega) _ (lv_sub hl [2, 3, 1, 0] rfl)
      exact cut_30 ((sN S - (0) : Int).toNat + 1) (0) (by omega) (by omega) _ (lv_sub hl [2, 3, 1, 0] rfl)
