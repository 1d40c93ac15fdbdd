set_option maxHeartbeats 4000000 in
set_option maxRecDepth 100000 in
theorem kL_act (l : Launch) (D : va_G) (k : Nat → ClassId) (L : List Nat) (f : Nat → va_E) (g : CG) (S : SA) (hR : cRep k L f g S) (hO : aOK S) (x : Int32) (hlt : l.stackTraces = false) (n0 sz : Nat) : Met l yL_act wsL_act ({ frames := 10, cells := 7, slots := 82, locals := 213 } : Room) (va_Pc [.ref (gA g 0), .int (x)] (xPre D (tyL k) n0 (va_pl L f) sz)) (va_Qi (wQ k (gA g 0) (-99999) (ActSp S x)) (pB D (va_pl L f) sz) (va_A (va_pl L f) sz)) 7 82 (va_A (va_pl L f) sz) := by
  refine Met.ofW (cc := cL_act) (maxL := 9) (ret := (some .int)) (by decide) rfl ?_
  intro p e s m args below meth c s₁ B hml hv
  obtain ⟨rfl, ⟨hsz, hn9, hP, hC, hD0⟩, hX⟩ := hv
  have hK := hC.1
  have hNW := hC.2.1
  have hx := B.exec
  have hb := B.bytes
  have hrt := B.returns
  have hts := atoms_spec (ws := wsL_act) B.pre
  have hown : s.vm.findClass RL = some m.cls := findClass_of_methodNamed B.named
  have hlocks := B.notSynchronized
  subst hsz
  obtain ⟨A, hAd⟩ : ∃ A, A = va_A (va_pl L f) s.heap.size := ⟨_, rfl⟩
  have hD := hD0.self (sz := s.heap.size)
  rw [← hAd] at hD
  have hA : ∀ q : Nat, s.heap.size ≤ q → A q := fun q h => by rw [hAd]; exact Or.inr h
  have hAn : ∀ q : Nat, A q → n0 ≤ q := fun q h => by
    rw [hAd] at h
    rcases h with ⟨k9, e9, hk9⟩ | h
    · exact hD0.2 k9 _ hk9
    · exact Nat.le_trans hn9 h
  have hS : va_S A s.heap s.heap [] := va_S.rf
  have hl := lv_entry ([.ref (gA g 0), .int (x)]) (n := 9) (Nat.le_of_ble_eq_true rfl)
  rw [lg_entry_eq]
  generalize (lg_sl ([.ref (gA g 0), .int (x)]) ++ List.replicate (9 - (lg_sl ([.ref (gA g 0), .int (x)])).length) Slot.unset).toArray = ls at hl ⊢
  have hl : lv_has ls 9 [(0, .ref (gA g 0)), (1, .int (x))] := hl
  obtain ⟨Q, hQ⟩ : ∃ Q, Q = MQ below (va_Qi (wQ k (gA g 0) (-99999) (ActSp S x)) (pB D (va_pl L f) s.heap.size) (va_A (va_pl L f) s.heap.size)) ([.ref (gA g 0), .int (x)] : List Value).toArray s 7 82 (va_A (va_pl L f) s.heap.size) := ⟨_, rfl⟩
  rw [← hQ]
  have hn0 := hO.1
  have hc0 := hO.2.2.2.1
  have cut_17 : ∀ (_ : Unit), ∀ (H : Heap) (locs : List Loc), va_P D vwCl (va_pl L f) H → va_D A (va_pl L f) → va_S A s.heap H locs → ∀ (ls : Array Slot), lv_has ls 9 [(0, .ref (gA g 0)), (1, .int (x))] → W p l e (headSpec wsL_act ({ frames := 10, cells := 7, slots := 82, locals := 213 } : Room)).room s m ([.ref (gA g 0), .int (x)] : List Value).toArray below meth c H locs 0 0 Q (F0 m 17 ls [.int (bI (aOdd x))]) := by
    intro _  H locs hP hD hS ls hl
    refine lv_istore_n (lv' := [(2, .int (bI (aOdd x))), (0, .ref (gA g 0)), (1, .int (x))]) hx hb dL_act_17 rfl hl (by decide) rfl (fun ls hl => ?_)
    refine lv_aload_n hx hb dL_act_18 rfl (lv_at hl 1 rfl) ?_
    refine vp_callSi (va_Run.run (va_runV (As := []) (rest := []) ⟨hx, hb, hml, hown, hts⟩ (kX9_length l D k L f g S hR hO) (cwV 0 hts gL_act_X9_length rfl rfl rfl (by decide +kernel) ⟨Nat.le_of_ble_eq_true rfl, Nat.le_of_ble_eq_true rfl⟩) (rc_preV hC hP (pl_recv hK hP (hR.2.1 0 (by decide)) hR.1.1 (ci := 8) (q := (RX9, TX9, 3)) rfl)) rfl rfl hl.1 rfl (lv_room (Nat.le_of_ble_eq_true rfl)) dL_act_19 ⟨Nat.zero_le _, Nat.zero_le _⟩)) (fun r1 hr1 => ?_)
    subst hr1
    refine lv_istore_n (lv' := [(3, .int (zI ((sN S)))), (2, .int (bI (aOdd x))), (0, .ref (gA g 0)), (1, .int (x))]) hx hb dL_act_22 rfl hl (by decide) rfl (fun ls hl => ?_)
    refine lv_iload_n hx hb dL_act_23 rfl (lv_at hl 3 rfl) ?_
    refine zr_const hx hb dL_act_24 ?_
    refine lv_ishr hx hb dL_act_25 ?_
    refine lv_iload_n hx hb dL_act_26 rfl (lv_at hl 1 rfl) ?_
    refine zr_ifb_eq (tgt := 36) hx hb dL_act_27 (by decide) (fun c2 => ?_) (fun c2 => ?_)
    · refine lv_iload_n hx hb dL_act_36 rfl (lv_at hl 0 rfl) ?_
      refine zr_const hx hb dL_act_37 ?_
      refine zr_add hx hb dL_act_38 ?_
      refine vp_callSi (va_Run.run (va_runS (As := [.int (x >>> ((zI (4)) &&& 31)), .int (zI (((sN S)) + 1))]) (rest := []) ⟨hx, hb, hml, hown, hts⟩ (kL_low l D k L f (x >>> ((zI (4)) &&& 31)) (((sN S)) + 1) (by omega)) (va_cwS 2 hts gL_act_L_low rfl rfl rfl (by decide +kernel) ⟨Nat.le_of_ble_eq_true rfl, Nat.le_of_ble_eq_true rfl⟩) (rc_preS hC hP) rfl rfl hl.1 rfl (lv_room (Nat.le_of_ble_eq_true rfl)) dL_act_39 ⟨Nat.zero_le _, Nat.zero_le _⟩)) (fun r3 hr3 => ?_)
      subst hr3
      have hl_r3 := lowI_r (x := (x >>> ((zI (4)) &&& 31))) (n := (((sN S)) + 1)) (by omega)
      refine lv_iload_n hx hb dL_act_42 rfl (lv_at hl 1 rfl) ?_
      refine zr_ifb_eq (tgt := 50) hx hb dL_act_43 (by decide) (fun c4 => ?_) (fun c4 => ?_)
      · refine zr_const hx hb dL_act_50 ?_
        refine zr_sub hx hb dL_act_51 ?_
        refine lv_istore (lv' := [(4, .int (zI ((lowI (x >>> ((zI (4)) &&& 31)) (((sN S)) + 1)) - 0))), (3, .int (zI ((sN S)))), (2, .int (bI (aOdd x))), (0, .ref (gA g 0)), (1, .int (x))]) hx hb dL_act_52 hl (by decide) rfl (fun ls hl => ?_)
        refine lv_iload_n hx hb dL_act_54 rfl (lv_at hl 4 rfl) ?_
        refine zr_bipush hx hb dL_act_55 (by decide) ?_
        refine lv_ishr hx hb dL_act_57 ?_
        refine lv_iload_n hx hb dL_act_58 rfl (lv_at hl 2 rfl) ?_
        refine zr_ifb_eq (tgt := 66) hx hb dL_act_59 (by decide) (fun c5 => ?_) (fun c5 => ?_)
        · refine zr_const hx hb dL_act_66 ?_
          refine vp_callSi (va_Run.run (va_runS (As := [.int (x >>> ((zI (9)) &&& 31)), .int (zI (3))]) (rest := []) ⟨hx, hb, hml, hown, hts⟩ (kL_low l D k L f (x >>> ((zI (9)) &&& 31)) 3 (by omega)) (va_cwS 2 hts gL_act_L_low rfl rfl rfl (by decide +kernel) ⟨Nat.le_of_ble_eq_true rfl, Nat.le_of_ble_eq_true rfl⟩) (rc_preS hC hP) rfl rfl hl.1 rfl (lv_room (Nat.le_of_ble_eq_true rfl)) dL_act_67 ⟨Nat.zero_le _, Nat.zero_le _⟩)) (fun r6 hr6 => ?_)
          subst hr6
          have hl_r6 := lowI_r (x := (x >>> ((zI (9)) &&& 31))) (n := 3) (by omega)
          refine lv_istore (lv' := [(5, .int (zI (lowI (x >>> ((zI (9)) &&& 31)) 3))), (4, .int (zI ((lowI (x >>> ((zI (4)) &&& 31)) (((sN S)) + 1)) - 0))), (3, .int (zI ((sN S)))), (2, .int (bI (aOdd x))), (0, .ref (gA g 0)), (1, .int (x))]) hx hb dL_act_70 hl (by decide) rfl (fun ls hl => ?_)
          refine lv_iload_n hx hb dL_act_72 rfl (lv_at hl 5 rfl) ?_
          refine zr_bipush hx hb dL_act_73 (by decide) ?_
          refine lv_ishr hx hb dL_act_75 ?_
          refine lv_aload_n hx hb dL_act_76 rfl (lv_at hl 4 rfl) ?_
          refine vp_callSi (va_Run.run (va_runV (As := []) (rest := [.int (x >>> ((zI (9)) &&& 31))]) ⟨hx, hb, hml, hown, hts⟩ (kX9_nodes l D k L f g S hR hO) (cwV 0 hts gL_act_X9_nodes rfl rfl rfl (by decide +kernel) ⟨Nat.le_of_ble_eq_true rfl, Nat.le_of_ble_eq_true rfl⟩) (rc_preV hC hP (pl_recv hK hP (hR.2.1 0 (by decide)) hR.1.1 (ci := 8) (q := (RX9, TX9, 3)) rfl)) rfl rfl hl.1 rfl (lv_room (Nat.le_of_ble_eq_true rfl)) dL_act_77 ⟨Nat.zero_le _, Nat.zero_le _⟩)) (fun r7 hr7 => ?_)
          subst hr7
          refine zr_const hx hb dL_act_80 ?_
          refine zr_add hx hb dL_act_81 ?_
          refine vp_callSi (va_Run.run (va_runS (As := [.int (x >>> ((zI (9)) &&& 31)), .int (zI (((sC S : Int)) + 1))]) (rest := []) ⟨hx, hb, hml, hown, hts⟩ (kL_low l D k L f (x >>> ((zI (9)) &&& 31)) (((sC S : Int)) + 1) (by omega)) (va_cwS 2 hts gL_act_L_low rfl rfl rfl (by decide +kernel) ⟨Nat.le_of_ble_eq_true rfl, Nat.le_of_ble_eq_true rfl⟩) (rc_preS hC hP) rfl rfl hl.1 rfl (lv_room (Nat.le_of_ble_eq_true rfl)) dL_act_82 ⟨Nat.zero_le _, Nat.zero_le _⟩)) (fun r8 hr8 => ?_)
          subst hr8
          have hl_r8 := lowI_r (x := (x >>> ((zI (9)) &&& 31))) (n := (((sC S : Int)) + 1)) (by omega)
          refine lv_iload_n hx hb dL_act_85 rfl (lv_at hl 3 rfl) ?_
          refine zr_ifb_eq (tgt := 93) hx hb dL_act_86 (by decide) (fun c9 => ?_) (fun c9 => ?_)
          · refine zr_const hx hb dL_act_93 ?_
            refine zr_sub hx hb dL_act_94 ?_
            refine lv_istore (lv' := [(6, .int (zI ((lowI (x >>> ((zI (9)) &&& 31)) (((sC S : Int)) + 1)) - 0))), (5, .int (zI (lowI (x >>> ((zI (9)) &&& 31)) 3))), (4, .int (zI ((lowI (x >>> ((zI (4)) &&& 31)) (((sN S)) + 1)) - 0))), (3, .int (zI ((sN S)))), (2, .int (bI (aOdd x))), (0, .ref (gA g 0)), (1, .int (x))]) hx hb dL_act_95 hl (by decide) rfl (fun ls hl => ?_)
            refine lv_iload_n hx hb dL_act_97 rfl (lv_at hl 6 rfl) ?_
            refine zr_bipush hx hb dL_act_98 (by decide) ?_
            refine lv_ishr hx hb dL_act_100 ?_
            refine lv_aload_n hx hb dL_act_101 rfl (lv_at hl 5 rfl) ?_
            refine vp_callSi (va_Run.run (va_runV (As := []) (rest := [.int (x >>> ((zI (14)) &&& 31))]) ⟨hx, hb, hml, hown, hts⟩ (kX9_nodes l D k L f g S hR hO) (cwV 0 hts gL_act_X9_nodes rfl rfl rfl (by decide +kernel) ⟨Nat.le_of_ble_eq_true rfl, Nat.le_of_ble_eq_true rfl⟩) (rc_preV hC hP (pl_recv hK hP (hR.2.1 0 (by decide)) hR.1.1 (ci := 8) (q := (RX9, TX9, 3)) rfl)) rfl rfl hl.1 rfl (lv_room (Nat.le_of_ble_eq_true rfl)) dL_act_102 ⟨Nat.zero_le _, Nat.zero_le _⟩)) (fun r10 hr10 => ?_)
            subst hr10
            refine zr_const hx hb dL_act_105 ?_
            refine zr_add hx hb dL_act_106 ?_
            refine vp_callSi (va_Run.run (va_runS (As := [.int (x >>> ((zI (14)) &&& 31)), .int (zI (((sC S : Int)) + 1))]) (rest := []) ⟨hx, hb, hml, hown, hts⟩ (kL_low l D k L f (x >>> ((zI (14)) &&& 31)) (((sC S : Int)) + 1) (by omega)) (va_cwS 2 hts gL_act_L_low rfl rfl rfl (by decide +kernel) ⟨Nat.le_of_ble_eq_true rfl, Nat.le_of_ble_eq_true rfl⟩) (rc_preS hC hP) rfl rfl hl.1 rfl (lv_room (Nat.le_of_ble_eq_true rfl)) dL_act_107 ⟨Nat.zero_le _, Nat.zero_le _⟩)) (fun r11 hr11 => ?_)
            subst hr11
            have hl_r11 := lowI_r (x := (x >>> ((zI (14)) &&& 31))) (n := (((sC S : Int)) + 1)) (by omega)
            refine lv_istore (lv' := [(7, .int (zI (lowI (x >>> ((zI (14)) &&& 31)) (((sC S : Int)) + 1)))), (6, .int (zI ((lowI (x >>> ((zI (9)) &&& 31)) (((sC S : Int)) + 1)) - 0))), (5, .int (zI (lowI (x >>> ((zI (9)) &&& 31)) 3))), (4, .int (zI ((lowI (x >>> ((zI (4)) &&& 31)) (((sN S)) + 1)) - 0))), (3, .int (zI ((sN S)))), (2, .int (bI (aOdd x))), (0, .ref (gA g 0)), (1, .int (x))]) hx hb dL_act_110 hl (by decide) rfl (fun ls hl => ?_)
            refine lv_iload_n hx hb dL_act_112 rfl (lv_at hl 7 rfl) ?_
            refine zr_bipush hx hb dL_act_113 (by decide) ?_
            refine vp_callSi (va_Run.run (va_runS (As := [.int (x), .int (zI (16))]) (rest := []) ⟨hx, hb, hml, hown, hts⟩ (kL_low l D k L f x 16 (by omega)) (va_cwS 2 hts gL_act_L_low rfl rfl rfl (by decide +kernel) ⟨Nat.le_of_ble_eq_true rfl, Nat.le_of_ble_eq_true rfl⟩) (rc_preS hC hP) rfl rfl hl.1 rfl (lv_room (Nat.le_of_ble_eq_true rfl)) dL_act_115 ⟨Nat.zero_le _, Nat.zero_le _⟩)) (fun r12 hr12 => ?_)
            subst hr12
            have hl_r12 := lowI_r (x := x) (n := 16) (by omega)
            refine lv_istore (lv' := [(8, .int (zI (lowI x 16))), (7, .int (zI (lowI (x >>> ((zI (14)) &&& 31)) (((sC S : Int)) + 1)))), (6, .int (zI ((lowI (x >>> ((zI (9)) &&& 31)) (((sC S : Int)) + 1)) - 0))), (5, .int (zI (lowI (x >>> ((zI (9)) &&& 31)) 3))), (4, .int (zI ((lowI (x >>> ((zI (4)) &&& 31)) (((sN S)) + 1)) - 0))), (3, .int (zI ((sN S)))), (2, .int (bI (aOdd x))), (0, .ref (gA g 0)), (1, .int (x))]) hx hb dL_act_118 hl (by decide) rfl (fun ls hl => ?_)
            have cut_155 : ∀ (_ : Unit), ∀ (H : Heap) (locs : List Loc), va_P D vwCl (va_pl L f) H → va_D A (va_pl L f) → va_S A s.heap H locs → ∀ (ls : Array Slot), lv_has ls 9 [(0, .ref (gA g 0)), (1, .int (x)), (2, .int (bI (aOdd x))), (3, .int (zI ((sN S)))), (4, .int (zI ((lowI (x >>> ((zI (4)) &&& 31)) (((sN S)) + 1)) - 0))), (5, .int (zI (lowI (x >>> ((zI (9)) &&& 31)) 3))), (6, .int (zI ((lowI (x >>> ((zI (9)) &&& 31)) (((sC S : Int)) + 1)) - 0))), (7, .int (zI (lowI (x >>> ((zI (14)) &&& 31)) (((sC S : Int)) + 1)))), (8, .int (zI (lowI x 16)))] → W p l e (headSpec wsL_act ({ frames := 10, cells := 7, slots := 82, locals := 213 } : Room)).room s m ([.ref (gA g 0), .int (x)] : List Value).toArray below meth c H locs 0 0 Q (F0 m 155 ls [.int (zI (aWhat x (sN S) (sC S : Int)))]) := by
              intro _  H locs hP hD hS ls hl
              refine lv_istore (lv' := [(8, .int (zI (aWhat x (sN S) (sC S : Int)))), (0, .ref (gA g 0)), (1, .int (x)), (2, .int (bI (aOdd x))), (3, .int (zI ((sN S)))), (4, .int (zI ((lowI (x >>> ((zI (4)) &&& 31)) (((sN S)) + 1)) - 0))), (5, .int (zI (lowI (x >>> ((zI (9)) &&& 31)) 3))), (6, .int (zI ((lowI (x >>> ((zI (9)) &&& 31)) (((sC S : Int)) + 1)) - 0))), (7, .int (zI (lowI (x >>> ((zI (14)) &&& 31)) (((sC S : Int)) + 1))))]) hx hb dL_act_155 hl (by decide) rfl (fun ls hl => ?_)
              have hw8 := aWhat_r x (sN S) (sC S : Int)
              refine lv_iload hx hb dL_act_157 (lv_at hl 0 rfl) ?_
              rcases (show (aWhat x (sN S) (sC S : Int)) = 0 ∨ (aWhat x (sN S) (sC S : Int)) = 1 ∨ (aWhat x (sN S) (sC S : Int)) = 2 ∨ (aWhat x (sN S) (sC S : Int)) = 3 ∨ (aWhat x (sN S) (sC S : Int)) = 4 ∨ (aWhat x (sN S) (sC S : Int)) = 5 ∨ (aWhat x (sN S) (sC S : Int)) = 6 ∨ (aWhat x (sN S) (sC S : Int)) = 7 ∨ (aWhat x (sN S) (sC S : Int)) = 8 ∨ (aWhat x (sN S) (sC S : Int)) = 9 ∨ (aWhat x (sN S) (sC S : Int)) = 10 ∨ (aWhat x (sN S) (sC S : Int)) = 11 ∨ (aWhat x (sN S) (sC S : Int)) = 12 ∨ (aWhat x (sN S) (sC S : Int)) = 13 ∨ (aWhat x (sN S) (sC S : Int)) = 14 ∨ (aWhat x (sN S) (sC S : Int)) = 15 ∨ (aWhat x (sN S) (sC S : Int)) = 16 ∨ (aWhat x (sN S) (sC S : Int) < 0 ∨ 16 < aWhat x (sN S) (sC S : Int)) by omega) with q13 | q13 | q13 | q13 | q13 | q13 | q13 | q13 | q13 | q13 | q13 | q13 | q13 | q13 | q13 | q13 | q13 | q13
              · refine lv_tableIn (off := 81) (tgt := 240) hx hb dL_act_159 (by rw [zI_toInt (by omega), q13]; decide) (by rw [zI_toInt (by omega), q13]; decide) (by rw [zI_toInt (by omega), q13]; rfl) (by decide) ?_
                refine lv_aload_n hx hb dL_act_240 rfl (lv_at hl 1 rfl) ?_
                refine lv_iload hx hb dL_act_241 (lv_at hl 5 rfl) ?_
                refine lv_iload_n hx hb dL_act_243 rfl (lv_at hl 2 rfl) ?_
                refine zr_bipush hx hb dL_act_244 (by decide) ?_
                refine lv_ishr hx hb dL_act_246 ?_
                refine lv_iload_n hx hb dL_act_247 rfl (lv_at hl 3 rfl) ?_
                refine zr_ifb_eq (tgt := 256) hx hb dL_act_248 (by decide) (fun c14 => ?_) (fun c14 => ?_)
                · refine zr_const hx hb dL_act_256 ?_
                  refine vp_callSi (va_Run.run (va_runS (As := [.int (x >>> ((zI (9)) &&& 31)), .int (zI (3))]) (rest := [.int (zI ((lowI (x >>> ((zI (4)) &&& 31)) (((sN S)) + 1)) - 0)), .ref (gA g 0)]) ⟨hx, hb, hml, hown, hts⟩ (kL_low l D k L f (x >>> ((zI (9)) &&& 31)) 3 (by omega)) (va_cwS 2 hts gL_act_L_low rfl rfl rfl (by decide +kernel) ⟨Nat.le_of_ble_eq_true rfl, Nat.le_of_ble_eq_true rfl⟩) (rc_preS hC hP) rfl rfl hl.1 rfl (lv_room (Nat.le_of_ble_eq_true rfl)) dL_act_257 ⟨Nat.zero_le _, Nat.zero_le _⟩)) (fun r15 hr15 => ?_)
                  subst hr15
                  have hl_r15 := lowI_r (x := (x >>> ((zI (9)) &&& 31))) (n := 3) (by omega)
                  refine pc_calli (vx_runSW (hh := [(0, 6, 7, 14), (0, 6, 11, 17), (0, 6, 15, 19)]) (As := [.ref (gA g 0), .int (zI ((lowI (x >>> ((zI (4)) &&& 31)) (((sN S)) + 1)) - 0)), .int (zI (lowI (x >>> ((zI (9)) &&& 31)) 3))]) (rest := []) ⟨hx, hb, hml, hown, hts⟩ (kL_insert l D k L f g S hR hO ((lowI (x >>> ((zI (4)) &&& 31)) (((sN S)) + 1)) - 0) (by omega) (lowI (x >>> ((zI (9)) &&& 31)) 3) (by omega) hlt n0 _) (vx_cwSW 3 hts gL_act_L_insert rfl rfl rfl (by decide +kernel) ⟨Nat.le_of_ble_eq_true rfl, Nat.le_of_ble_eq_true rfl⟩) (xc_preS hC hX hP (Nat.le_trans hn9 hS.1) hD hS hAn) rfl rfl hl.1 rfl (lv_room (Nat.le_of_ble_eq_true rfl)) dL_act_260 ⟨Nat.le_of_ble_eq_true rfl, Nat.le_of_ble_eq_true rfl⟩) hD hS hA (fun r16 ur16 H locs hr16 hP hD hS hzr16 => ?_)
                  rw [hQ]
                  exact pc_iret hx hb hrt hP (by rw [← hAd]; exact hD) (by rw [← hAd]; exact hS) (wQ.mono hr16 (fun _ _ _ h9 => as_ins c2 (by omega) h9)) dL_act_263 hlocks
                · exact absurd c14 (by rw [c2]; decide)
              · refine lv_tableIn (off := 81) (tgt := 240) hx hb dL_act_159 (by rw [zI_toInt (by omega), q13]; decide) (by rw [zI_toInt (by omega), q13]; decide) (by rw [zI_toInt (by omega), q13]; rfl) (by decide) ?_
                refine lv_aload_n hx hb dL_act_240 rfl (lv_at hl 1 rfl) ?_
                refine lv_iload hx hb dL_act_241 (lv_at hl 5 rfl) ?_
                refine lv_iload_n hx hb dL_act_243 rfl (lv_at hl 2 rfl) ?_
                refine zr_bipush hx hb dL_act_244 (by decide) ?_
                refine lv_ishr hx hb dL_act_246 ?_
                refine lv_iload_n hx hb dL_act_247 rfl (lv_at hl 3 rfl) ?_
                refine zr_ifb_eq (tgt := 256) hx hb dL_act_248 (by decide) (fun c17 => ?_) (fun c17 => ?_)
                · refine zr_const hx hb dL_act_256 ?_
                  refine vp_callSi (va_Run.run (va_runS (As := [.int (x >>> ((zI (9)) &&& 31)), .int (zI (3))]) (rest := [.int (zI ((lowI (x >>> ((zI (4)) &&& 31)) (((sN S)) + 1)) - 0)), .ref (gA g 0)]) ⟨hx, hb, hml, hown, hts⟩ (kL_low l D k L f (x >>> ((zI (9)) &&& 31)) 3 (by omega)) (va_cwS 2 hts gL_act_L_low rfl rfl rfl (by decide +kernel) ⟨Nat.le_of_ble_eq_true rfl, Nat.le_of_ble_eq_true rfl⟩) (rc_preS hC hP) rfl rfl hl.1 rfl (lv_room (Nat.le_of_ble_eq_true rfl)) dL_act_257 ⟨Nat.zero_le _, Nat.zero_le _⟩)) (fun r18 hr18 => ?_)
                  subst hr18
                  have hl_r18 := lowI_r (x := (x >>> ((zI (9)) &&& 31))) (n := 3) (by omega)
                  refine pc_calli (vx_runSW (hh := [(0, 6, 7, 14), (0, 6, 11, 17), (0, 6, 15, 19)]) (As := [.ref (gA g 0), .int (zI ((lowI (x >>> ((zI (4)) &&& 31)) (((sN S)) + 1)) - 0)), .int (zI (lowI (x >>> ((zI (9)) &&& 31)) 3))]) (rest := []) ⟨hx, hb, hml, hown, hts⟩ (kL_insert l D k L f g S hR hO ((lowI (x >>> ((zI (4)) &&& 31)) (((sN S)) + 1)) - 0) (by omega) (lowI (x >>> ((zI (9)) &&& 31)) 3) (by omega) hlt n0 _) (vx_cwSW 3 hts gL_act_L_insert rfl rfl rfl (by decide +kernel) ⟨Nat.le_of_ble_eq_true rfl, Nat.le_of_ble_eq_true rfl⟩) (xc_preS hC hX hP (Nat.le_trans hn9 hS.1) hD hS hAn) rfl rfl hl.1 rfl (lv_room (Nat.le_of_ble_eq_true rfl)) dL_act_260 ⟨Nat.le_of_ble_eq_true rfl, Nat.le_of_ble_eq_true rfl⟩) hD hS hA (fun r19 ur19 H locs hr19 hP hD hS hzr19 => ?_)
                  rw [hQ]
                  exact pc_iret hx hb hrt hP (by rw [← hAd]; exact hD) (by rw [← hAd]; exact hS) (wQ.mono hr19 (fun _ _ _ h9 => as_ins c2 (by omega) h9)) dL_act_263 hlocks
                · exact absurd c17 (by rw [c2]; decide)
              · refine lv_tableIn (off := 81) (tgt := 240) hx hb dL_act_159 (by rw [zI_toInt (by omega), q13]; decide) (by rw [zI_toInt (by omega), q13]; decide) (by rw [zI_toInt (by omega), q13]; rfl) (by decide) ?_
                refine lv_aload_n hx hb dL_act_240 rfl (lv_at hl 1 rfl) ?_
                refine lv_iload hx hb dL_act_241 (lv_at hl 5 rfl) ?_
                refine lv_iload_n hx hb dL_act_243 rfl (lv_at hl 2 rfl) ?_
                refine zr_bipush hx hb dL_act_244 (by decide) ?_
                refine lv_ishr hx hb dL_act_246 ?_
                refine lv_iload_n hx hb dL_act_247 rfl (lv_at hl 3 rfl) ?_
                refine zr_ifb_eq (tgt := 256) hx hb dL_act_248 (by decide) (fun c20 => ?_) (fun c20 => ?_)
                · refine zr_const hx hb dL_act_256 ?_
                  refine vp_callSi (va_Run.run (va_runS (As := [.int (x >>> ((zI (9)) &&& 31)), .int (zI (3))]) (rest := [.int (zI ((lowI (x >>> ((zI (4)) &&& 31)) (((sN S)) + 1)) - 0)), .ref (gA g 0)]) ⟨hx, hb, hml, hown, hts⟩ (kL_low l D k L f (x >>> ((zI (9)) &&& 31)) 3 (by omega)) (va_cwS 2 hts gL_act_L_low rfl rfl rfl (by decide +kernel) ⟨Nat.le_of_ble_eq_true rfl, Nat.le_of_ble_eq_true rfl⟩) (rc_preS hC hP) rfl rfl hl.1 rfl (lv_room (Nat.le_of_ble_eq_true rfl)) dL_act_257 ⟨Nat.zero_le _, Nat.zero_le _⟩)) (fun r21 hr21 => ?_)
                  subst hr21
                  have hl_r21 := lowI_r (x := (x >>> ((zI (9)) &&& 31))) (n := 3) (by omega)
                  refine pc_calli (vx_runSW (hh := [(0, 6, 7, 14), (0, 6, 11, 17), (0, 6, 15, 19)]) (As := [.ref (gA g 0), .int (zI ((lowI (x >>> ((zI (4)) &&& 31)) (((sN S)) + 1)) - 0)), .int (zI (lowI (x >>> ((zI (9)) &&& 31)) 3))]) (rest := []) ⟨hx, hb, hml, hown, hts⟩ (kL_insert l D k L f g S hR hO ((lowI (x >>> ((zI (4)) &&& 31)) (((sN S)) + 1)) - 0) (by omega) (lowI (x >>> ((zI (9)) &&& 31)) 3) (by omega) hlt n0 _) (vx_cwSW 3 hts gL_act_L_insert rfl rfl rfl (by decide +kernel) ⟨Nat.le_of_ble_eq_true rfl, Nat.le_of_ble_eq_true rfl⟩) (xc_preS hC hX hP (Nat.le_trans hn9 hS.1) hD hS hAn) rfl rfl hl.1 rfl (lv_room (Nat.le_of_ble_eq_true rfl)) dL_act_260 ⟨Nat.le_of_ble_eq_true rfl, Nat.le_of_ble_eq_true rfl⟩) hD hS hA (fun r22 ur22 H locs hr22 hP hD hS hzr22 => ?_)
                  rw [hQ]
                  exact pc_iret hx hb hrt hP (by rw [← hAd]; exact hD) (by rw [← hAd]; exact hS) (wQ.mono hr22 (fun _ _ _ h9 => as_ins c2 (by omega) h9)) dL_act_263 hlocks
                · exact absurd c20 (by rw [c2]; decide)
              · refine lv_tableIn (off := 81) (tgt := 240) hx hb dL_act_159 (by rw [zI_toInt (by omega), q13]; decide) (by rw [zI_toInt (by omega), q13]; decide) (by rw [zI_toInt (by omega), q13]; rfl) (by decide) ?_
                refine lv_aload_n hx hb dL_act_240 rfl (lv_at hl 1 rfl) ?_
                refine lv_iload hx hb dL_act_241 (lv_at hl 5 rfl) ?_
                refine lv_iload_n hx hb dL_act_243 rfl (lv_at hl 2 rfl) ?_
                refine zr_bipush hx hb dL_act_244 (by decide) ?_
                refine lv_ishr hx hb dL_act_246 ?_
                refine lv_iload_n hx hb dL_act_247 rfl (lv_at hl 3 rfl) ?_
                refine zr_ifb_eq (tgt := 256) hx hb dL_act_248 (by decide) (fun c23 => ?_) (fun c23 => ?_)
                · refine zr_const hx hb dL_act_256 ?_
                  refine vp_callSi (va_Run.run (va_runS (As := [.int (x >>> ((zI (9)) &&& 31)), .int (zI (3))]) (rest := [.int (zI ((lowI (x >>> ((zI (4)) &&& 31)) (((sN S)) + 1)) - 0)), .ref (gA g 0)]) ⟨hx, hb, hml, hown, hts⟩ (kL_low l D k L f (x >>> ((zI (9)) &&& 31)) 3 (by omega)) (va_cwS 2 hts gL_act_L_low rfl rfl rfl (by decide +kernel) ⟨Nat.le_of_ble_eq_true rfl, Nat.le_of_ble_eq_true rfl⟩) (rc_preS hC hP) rfl rfl hl.1 rfl (lv_room (Nat.le_of_ble_eq_true rfl)) dL_act_257 ⟨Nat.zero_le _, Nat.zero_le _⟩)) (fun r24 hr24 => ?_)
                  subst hr24
                  have hl_r24 := lowI_r (x := (x >>> ((zI (9)) &&& 31))) (n := 3) (by omega)
                  refine pc_calli (vx_runSW (hh := [(0, 6, 7, 14), (0, 6, 11, 17), (0, 6, 15, 19)]) (As := [.ref (gA g 0), .int (zI ((lowI (x >>> ((zI (4)) &&& 31)) (((sN S)) + 1)) - 0)), .int (zI (lowI (x >>> ((zI (9)) &&& 31)) 3))]) (rest := []) ⟨hx, hb, hml, hown, hts⟩ (kL_insert l D k L f g S hR hO ((lowI (x >>> ((zI (4)) &&& 31)) (((sN S)) + 1)) - 0) (by omega) (lowI (x >>> ((zI (9)) &&& 31)) 3) (by omega) hlt n0 _) (vx_cwSW 3 hts gL_act_L_insert rfl rfl rfl (by decide +kernel) ⟨Nat.le_of_ble_eq_true rfl, Nat.le_of_ble_eq_true rfl⟩) (xc_preS hC hX hP (Nat.le_trans hn9 hS.1) hD hS hAn) rfl rfl hl.1 rfl (lv_room (Nat.le_of_ble_eq_true rfl)) dL_act_260 ⟨Nat.le_of_ble_eq_true rfl, Nat.le_of_ble_eq_true rfl⟩) hD hS hA (fun r25 ur25 H locs hr25 hP hD hS hzr25 => ?_)
                  rw [hQ]
                  exact pc_iret hx hb hrt hP (by rw [← hAd]; exact hD) (by rw [← hAd]; exact hS) (wQ.mono hr25 (fun _ _ _ h9 => as_ins c2 (by omega) h9)) dL_act_263 hlocks
                · exact absurd c23 (by rw [c2]; decide)
              · refine lv_tableIn (off := 105) (tgt := 264) hx hb dL_act_159 (by rw [zI_toInt (by omega), q13]; decide) (by rw [zI_toInt (by omega), q13]; decide) (by rw [zI_toInt (by omega), q13]; rfl) (by decide) ?_
                refine lv_iload_n hx hb dL_act_264 rfl (lv_at hl 2 rfl) ?_
                refine zr_bipush hx hb dL_act_265 (by decide) ?_
                refine lv_ishr hx hb dL_act_267 ?_
                refine zr_const hx hb dL_act_268 ?_
                refine vp_callSi (va_Run.run (va_runS (As := [.int (x >>> ((zI (14)) &&& 31)), .int (zI (2))]) (rest := []) ⟨hx, hb, hml, hown, hts⟩ (kL_low l D k L f (x >>> ((zI (14)) &&& 31)) 2 (by omega)) (va_cwS 2 hts gL_act_L_low rfl rfl rfl (by decide +kernel) ⟨Nat.le_of_ble_eq_true rfl, Nat.le_of_ble_eq_true rfl⟩) (rc_preS hC hP) rfl rfl hl.1 rfl (lv_room (Nat.le_of_ble_eq_true rfl)) dL_act_269 ⟨Nat.zero_le _, Nat.zero_le _⟩)) (fun r26 hr26 => ?_)
                subst hr26
                have hl_r26 := lowI_r (x := (x >>> ((zI (14)) &&& 31))) (n := 2) (by omega)
                refine zr_if_ne (tgt := 284) hx hb dL_act_272 (by decide) (by omega) (fun c27 => ?_) (fun c27 => ?_)
                · refine lv_aload_n hx hb dL_act_284 rfl (lv_at hl 1 rfl) ?_
                  refine lv_iload hx hb dL_act_285 (lv_at hl 5 rfl) ?_
                  refine lv_iload_n hx hb dL_act_287 rfl (lv_at hl 2 rfl) ?_
                  refine zr_bipush hx hb dL_act_288 (by decide) ?_
                  refine lv_ishr hx hb dL_act_290 ?_
                  refine zr_const hx hb dL_act_291 ?_
                  refine vp_callSi (va_Run.run (va_runS (As := [.int (x >>> ((zI (9)) &&& 31)), .int (zI (3))]) (rest := [.int (zI ((lowI (x >>> ((zI (4)) &&& 31)) (((sN S)) + 1)) - 0)), .ref (gA g 0)]) ⟨hx, hb, hml, hown, hts⟩ (kL_low l D k L f (x >>> ((zI (9)) &&& 31)) 3 (by omega)) (va_cwS 2 hts gL_act_L_low rfl rfl rfl (by decide +kernel) ⟨Nat.le_of_ble_eq_true rfl, Nat.le_of_ble_eq_true rfl⟩) (rc_preS hC hP) rfl rfl hl.1 rfl (lv_room (Nat.le_of_ble_eq_true rfl)) dL_act_292 ⟨Nat.zero_le _, Nat.zero_le _⟩)) (fun r28 hr28 => ?_)
                  subst hr28
                  have hl_r28 := lowI_r (x := (x >>> ((zI (9)) &&& 31))) (n := 3) (by omega)
                  refine pc_calli (vx_runSW (hh := [(0, 6, 7, 14), (0, 6, 11, 17), (0, 6, 15, 19)]) (As := [.ref (gA g 0), .int (zI ((lowI (x >>> ((zI (4)) &&& 31)) (((sN S)) + 1)) - 0)), .int (zI (lowI (x >>> ((zI (9)) &&& 31)) 3))]) (rest := []) ⟨hx, hb, hml, hown, hts⟩ (kL_insert l D k L f g S hR hO ((lowI (x >>> ((zI (4)) &&& 31)) (((sN S)) + 1)) - 0) (by omega) (lowI (x >>> ((zI (9)) &&& 31)) 3) (by omega) hlt n0 _) (vx_cwSW 3 hts gL_act_L_insert rfl rfl rfl (by decide +kernel) ⟨Nat.le_of_ble_eq_true rfl, Nat.le_of_ble_eq_true rfl⟩) (xc_preS hC hX hP (Nat.le_trans hn9 hS.1) hD hS hAn) rfl rfl hl.1 rfl (lv_room (Nat.le_of_ble_eq_true rfl)) dL_act_295 ⟨Nat.le_of_ble_eq_true rfl, Nat.le_of_ble_eq_true rfl⟩) hD hS hA (fun r29 ur29 H locs hr29 hP hD hS hzr29 => ?_)
                  rw [hQ]
                  exact pc_iret hx hb hrt hP (by rw [← hAd]; exact hD) (by rw [← hAd]; exact hS) (wQ.mono hr29 (fun _ _ _ h9 => as_ins4 c2 (by omega) (by assumption) h9)) dL_act_298 hlocks
                · refine lv_aload_n hx hb dL_act_275 rfl (lv_at hl 1 rfl) ?_
                  refine lv_iload hx hb dL_act_276 (lv_at hl 5 rfl) ?_
                  refine pc_calli (vx_runSW (hh := [(0, 5, 6, 14)]) (As := [.ref (gA g 0), .int (zI ((lowI (x >>> ((zI (4)) &&& 31)) (((sN S)) + 1)) - 0))]) (rest := []) ⟨hx, hb, hml, hown, hts⟩ (kL_remove l D k L f g S hR hO ((lowI (x >>> ((zI (4)) &&& 31)) (((sN S)) + 1)) - 0) (by omega) hlt n0 _) (vx_cwSW 2 hts gL_act_L_remove rfl rfl rfl (by decide +kernel) ⟨Nat.le_of_ble_eq_true rfl, Nat.le_of_ble_eq_true rfl⟩) (xc_preS hC hX hP (Nat.le_trans hn9 hS.1) hD hS hAn) rfl rfl hl.1 rfl (lv_room (Nat.le_of_ble_eq_true rfl)) dL_act_278 ⟨Nat.le_of_ble_eq_true rfl, Nat.le_of_ble_eq_true rfl⟩) hD hS hA (fun r30 ur30 H locs hr30 hP hD hS hzr30 => ?_)
                  refine lv_goto (tgt := 298) hx hb dL_act_281 (by decide) ?_
                  rw [hQ]
                  exact pc_iret hx hb hrt hP (by rw [← hAd]; exact hD) (by rw [← hAd]; exact hS) (wQ.mono hr30 (fun _ _ _ h9 => as_rem4 c2 (by omega) (by assumption) h9)) dL_act_298 hlocks
              · refine lv_tableIn (off := 140) (tgt := 299) hx hb dL_act_159 (by rw [zI_toInt (by omega), q13]; decide) (by rw [zI_toInt (by omega), q13]; decide) (by rw [zI_toInt (by omega), q13]; rfl) (by decide) ?_
                refine lv_aload_n hx hb dL_act_299 rfl (lv_at hl 1 rfl) ?_
                refine lv_iload hx hb dL_act_300 (lv_at hl 6 rfl) ?_
                refine lv_iload hx hb dL_act_302 (lv_at hl 5 rfl) ?_
                refine lv_iload hx hb dL_act_304 (lv_at hl 5 rfl) ?_
                refine lv_iload_n hx hb dL_act_306 rfl (lv_at hl 2 rfl) ?_
                refine zr_bipush hx hb dL_act_307 (by decide) ?_
                refine lv_ishr hx hb dL_act_309 ?_
                refine lv_iload_n hx hb dL_act_310 rfl (lv_at hl 3 rfl) ?_
                refine zr_ifb_eq (tgt := 319) hx hb dL_act_311 (by decide) (fun c31 => ?_) (fun c31 => ?_)
                · refine zr_const hx hb dL_act_319 ?_
                  refine vp_callSi (va_Run.run (va_runS (As := [.int (x >>> ((zI (12)) &&& 31)), .int (zI (5))]) (rest := [.int (zI ((lowI (x >>> ((zI (4)) &&& 31)) (((sN S)) + 1)) - 0)), .int (zI ((lowI (x >>> ((zI (4)) &&& 31)) (((sN S)) + 1)) - 0)), .int (zI (lowI (x >>> ((zI (9)) &&& 31)) 3)), .ref (gA g 0)]) ⟨hx, hb, hml, hown, hts⟩ (kL_low l D k L f (x >>> ((zI (12)) &&& 31)) 5 (by omega)) (va_cwS 2 hts gL_act_L_low rfl rfl rfl (by decide +kernel) ⟨Nat.le_of_ble_eq_true rfl, Nat.le_of_ble_eq_true rfl⟩) (rc_preS hC hP) rfl rfl hl.1 rfl (lv_room (Nat.le_of_ble_eq_true rfl)) dL_act_320 ⟨Nat.zero_le _, Nat.zero_le _⟩)) (fun r32 hr32 => ?_)
                  subst hr32
                  have hl_r32 := lowI_r (x := (x >>> ((zI (12)) &&& 31))) (n := 5) (by omega)
                  refine zr_add hx hb dL_act_323 ?_
                  refine lv_iload_n hx hb dL_act_324 rfl (lv_at hl 3 rfl) ?_
                  refine zr_ifb_eq (tgt := 332) hx hb dL_act_325 (by decide) (fun c33 => ?_) (fun c33 => ?_)
                  · refine zr_const hx hb dL_act_332 ?_
                    refine zr_add hx hb dL_act_333 ?_
                    refine pc_calli (vx_runSW (hh := [(0, 15, 16, 14), (0, 15, 21, 17)]) (As := [.ref (gA g 0), .int (zI (lowI (x >>> ((zI (9)) &&& 31)) 3)), .int (zI ((lowI (x >>> ((zI (4)) &&& 31)) (((sN S)) + 1)) - 0)), .int (zI ((((lowI (x >>> ((zI (4)) &&& 31)) (((sN S)) + 1)) - 0) + (lowI (x >>> ((zI (12)) &&& 31)) 5)) + 1))]) (rest := []) ⟨hx, hb, hml, hown, hts⟩ (kL_mark l D k L f g S hR hO (lowI (x >>> ((zI (9)) &&& 31)) 3) (by omega) ((lowI (x >>> ((zI (4)) &&& 31)) (((sN S)) + 1)) - 0) (by omega) ((((lowI (x >>> ((zI (4)) &&& 31)) (((sN S)) + 1)) - 0) + (lowI (x >>> ((zI (12)) &&& 31)) 5)) + 1) (by omega) hlt n0 _) (vx_cwSW 4 hts gL_act_L_mark rfl rfl rfl (by decide +kernel) ⟨Nat.le_of_ble_eq_true rfl, Nat.le_of_ble_eq_true rfl⟩) (xc_preS hC hX hP (Nat.le_trans hn9 hS.1) hD hS hAn) rfl rfl hl.1 rfl (lv_room (Nat.le_of_ble_eq_true rfl)) dL_act_334 ⟨Nat.le_of_ble_eq_true rfl, Nat.le_of_ble_eq_true rfl⟩) hD hS hA (fun r34 ur34 H locs hr34 hP hD hS hzr34 => ?_)
                    rw [hQ]
                    exact pc_iret hx hb hrt hP (by rw [← hAd]; exact hD) (by rw [← hAd]; exact hS) (wQ.mono hr34 (fun _ _ _ h9 => as_mark c2 (by omega) h9)) dL_act_337 hlocks
                  · exact absurd c33 (by rw [c2]; decide)
                · exact absurd c31 (by rw [c2]; decide)
              · refine lv_tableIn (off := 140) (tgt := 299) hx hb dL_act_159 (by rw [zI_toInt (by omega), q13]; decide) (by rw [zI_toInt (by omega), q13]; decide) (by rw [zI_toInt (by omega), q13]; rfl) (by decide) ?_
                refine lv_aload_n hx hb dL_act_299 rfl (lv_at hl 1 rfl) ?_
                refine lv_iload hx hb dL_act_300 (lv_at hl 6 rfl) ?_
                refine lv_iload hx hb dL_act_302 (lv_at hl 5 rfl) ?_
                refine lv_iload hx hb dL_act_304 (lv_at hl 5 rfl) ?_
                refine lv_iload_n hx hb dL_act_306 rfl (lv_at hl 2 rfl) ?_
                refine zr_bipush hx hb dL_act_307 (by decide) ?_
                refine lv_ishr hx hb dL_act_309 ?_
                refine lv_iload_n hx hb dL_act_310 rfl (lv_at hl 3 rfl) ?_
                refine zr_ifb_eq (tgt := 319) hx hb dL_act_311 (by decide) (fun c35 => ?_) (fun c35 => ?_)
                · refine zr_const hx hb dL_act_319 ?_
                  refine vp_callSi (va_Run.run (va_runS (As := [.int (x >>> ((zI (12)) &&& 31)), .int (zI (5))]) (rest := [.int (zI ((lowI (x >>> ((zI (4)) &&& 31)) (((sN S)) + 1)) - 0)), .int (zI ((lowI (x >>> ((zI (4)) &&& 31)) (((sN S)) + 1)) - 0)), .int (zI (lowI (x >>> ((zI (9)) &&& 31)) 3)), .ref (gA g 0)]) ⟨hx, hb, hml, hown, hts⟩ (kL_low l D k L f (x >>> ((zI (12)) &&& 31)) 5 (by omega)) (va_cwS 2 hts gL_act_L_low rfl rfl rfl (by decide +kernel) ⟨Nat.le_of_ble_eq_true rfl, Nat.le_of_ble_eq_true rfl⟩) (rc_preS hC hP) rfl rfl hl.1 rfl (lv_room (Nat.le_of_ble_eq_true rfl)) dL_act_320 ⟨Nat.zero_le _, Nat.zero_le _⟩)) (fun r36 hr36 => ?_)
                  subst hr36
                  have hl_r36 := lowI_r (x := (x >>> ((zI (12)) &&& 31))) (n := 5) (by omega)
                  refine zr_add hx hb dL_act_323 ?_
                  refine lv_iload_n hx hb dL_act_324 rfl (lv_at hl 3 rfl) ?_
                  refine zr_ifb_eq (tgt := 332) hx hb dL_act_325 (by decide) (fun c37 => ?_) (fun c37 => ?_)
                  · refine zr_const hx hb dL_act_332 ?_
                    refine zr_add hx hb dL_act_333 ?_
                    refine pc_calli (vx_runSW (hh := [(0, 15, 16, 14), (0, 15, 21, 17)]) (As := [.ref (gA g 0), .int (zI (lowI (x >>> ((zI (9)) &&& 31)) 3)), .int (zI ((lowI (x >>> ((zI (4)) &&& 31)) (((sN S)) + 1)) - 0)), .int (zI ((((lowI (x >>> ((zI (4)) &&& 31)) (((sN S)) + 1)) - 0) + (lowI (x >>> ((zI (12)) &&& 31)) 5)) + 1))]) (rest := []) ⟨hx, hb, hml, hown, hts⟩ (kL_mark l D k L f g S hR hO (lowI (x >>> ((zI (9)) &&& 31)) 3) (by omega) ((lowI (x >>> ((zI (4)) &&& 31)) (((sN S)) + 1)) - 0) (by omega) ((((lowI (x >>> ((zI (4)) &&& 31)) (((sN S)) + 1)) - 0) + (lowI (x >>> ((zI (12)) &&& 31)) 5)) + 1) (by omega) hlt n0 _) (vx_cwSW 4 hts gL_act_L_mark rfl rfl rfl (by decide +kernel) ⟨Nat.le_of_ble_eq_true rfl, Nat.le_of_ble_eq_true rfl⟩) (xc_preS hC hX hP (Nat.le_trans hn9 hS.1) hD hS hAn) rfl rfl hl.1 rfl (lv_room (Nat.le_of_ble_eq_true rfl)) dL_act_334 ⟨Nat.le_of_ble_eq_true rfl, Nat.le_of_ble_eq_true rfl⟩) hD hS hA (fun r38 ur38 H locs hr38 hP hD hS hzr38 => ?_)
                    rw [hQ]
                    exact pc_iret hx hb hrt hP (by rw [← hAd]; exact hD) (by rw [← hAd]; exact hS) (wQ.mono hr38 (fun _ _ _ h9 => as_mark c2 (by omega) h9)) dL_act_337 hlocks
                  · exact absurd c37 (by rw [c2]; decide)
                · exact absurd c35 (by rw [c2]; decide)
              · refine lv_tableIn (off := 140) (tgt := 299) hx hb dL_act_159 (by rw [zI_toInt (by omega), q13]; decide) (by rw [zI_toInt (by omega), q13]; decide) (by rw [zI_toInt (by omega), q13]; rfl) (by decide) ?_
                refine lv_aload_n hx hb dL_act_299 rfl (lv_at hl 1 rfl) ?_
                refine lv_iload hx hb dL_act_300 (lv_at hl 6 rfl) ?_
                refine lv_iload hx hb dL_act_302 (lv_at hl 5 rfl) ?_
                refine lv_iload hx hb dL_act_304 (lv_at hl 5 rfl) ?_
                refine lv_iload_n hx hb dL_act_306 rfl (lv_at hl 2 rfl) ?_
                refine zr_bipush hx hb dL_act_307 (by decide) ?_
                refine lv_ishr hx hb dL_act_309 ?_
                refine lv_iload_n hx hb dL_act_310 rfl (lv_at hl 3 rfl) ?_
                refine zr_ifb_eq (tgt := 319) hx hb dL_act_311 (by decide) (fun c39 => ?_) (fun c39 => ?_)
                · refine zr_const hx hb dL_act_319 ?_
                  refine vp_callSi (va_Run.run (va_runS (As := [.int (x >>> ((zI (12)) &&& 31)), .int (zI (5))]) (rest := [.int (zI ((lowI (x >>> ((zI (4)) &&& 31)) (((sN S)) + 1)) - 0)), .int (zI ((lowI (x >>> ((zI (4)) &&& 31)) (((sN S)) + 1)) - 0)), .int (zI (lowI (x >>> ((zI (9)) &&& 31)) 3)), .ref (gA g 0)]) ⟨hx, hb, hml, hown, hts⟩ (kL_low l D k L f (x >>> ((zI (12)) &&& 31)) 5 (by omega)) (va_cwS 2 hts gL_act_L_low rfl rfl rfl (by decide +kernel) ⟨Nat.le_of_ble_eq_true rfl, Nat.le_of_ble_eq_true rfl⟩) (rc_preS hC hP) rfl rfl hl.1 rfl (lv_room (Nat.le_of_ble_eq_true rfl)) dL_act_320 ⟨Nat.zero_le _, Nat.zero_le _⟩)) (fun r40 hr40 => ?_)
                  subst hr40
                  have hl_r40 := lowI_r (x := (x >>> ((zI (12)) &&& 31))) (n := 5) (by omega)
                  refine zr_add hx hb dL_act_323 ?_
                  refine lv_iload_n hx hb dL_act_324 rfl (lv_at hl 3 rfl) ?_
                  refine zr_ifb_eq (tgt := 332) hx hb dL_act_325 (by decide) (fun c41 => ?_) (fun c41 => ?_)
                  · refine zr_const hx hb dL_act_332 ?_
                    refine zr_add hx hb dL_act_333 ?_
                    refine pc_calli (vx_runSW (hh := [(0, 15, 16, 14), (0, 15, 21, 17)]) (As := [.ref (gA g 0), .int (zI (lowI (x >>> ((zI (9)) &&& 31)) 3)), .int (zI ((lowI (x >>> ((zI (4)) &&& 31)) (((sN S)) + 1)) - 0)), .int (zI ((((lowI (x >>> ((zI (4)) &&& 31)) (((sN S)) + 1)) - 0) + (lowI (x >>> ((zI (12)) &&& 31)) 5)) + 1))]) (rest := []) ⟨hx, hb, hml, hown, hts⟩ (kL_mark l D k L f g S hR hO (lowI (x >>> ((zI (9)) &&& 31)) 3) (by omega) ((lowI (x >>> ((zI (4)) &&& 31)) (((sN S)) + 1)) - 0) (by omega) ((((lowI (x >>> ((zI (4)) &&& 31)) (((sN S)) + 1)) - 0) + (lowI (x >>> ((zI (12)) &&& 31)) 5)) + 1) (by omega) hlt n0 _) (vx_cwSW 4 hts gL_act_L_mark rfl rfl rfl (by decide +kernel) ⟨Nat.le_of_ble_eq_true rfl, Nat.le_of_ble_eq_true rfl⟩) (xc_preS hC hX hP (Nat.le_trans hn9 hS.1) hD hS hAn) rfl rfl hl.1 rfl (lv_room (Nat.le_of_ble_eq_true rfl)) dL_act_334 ⟨Nat.le_of_ble_eq_true rfl, Nat.le_of_ble_eq_true rfl⟩) hD hS hA (fun r42 ur42 H locs hr42 hP hD hS hzr42 => ?_)
                    rw [hQ]
                    exact pc_iret hx hb hrt hP (by rw [← hAd]; exact hD) (by rw [← hAd]; exact hS) (wQ.mono hr42 (fun _ _ _ h9 => as_mark c2 (by omega) h9)) dL_act_337 hlocks
                  · exact absurd c41 (by rw [c2]; decide)
                · exact absurd c39 (by rw [c2]; decide)
              · refine lv_tableIn (off := 140) (tgt := 299) hx hb dL_act_159 (by rw [zI_toInt (by omega), q13]; decide) (by rw [zI_toInt (by omega), q13]; decide) (by rw [zI_toInt (by omega), q13]; rfl) (by decide) ?_
                refine lv_aload_n hx hb dL_act_299 rfl (lv_at hl 1 rfl) ?_
                refine lv_iload hx hb dL_act_300 (lv_at hl 6 rfl) ?_
                refine lv_iload hx hb dL_act_302 (lv_at hl 5 rfl) ?_
                refine lv_iload hx hb dL_act_304 (lv_at hl 5 rfl) ?_
                refine lv_iload_n hx hb dL_act_306 rfl (lv_at hl 2 rfl) ?_
                refine zr_bipush hx hb dL_act_307 (by decide) ?_
                refine lv_ishr hx hb dL_act_309 ?_
                refine lv_iload_n hx hb dL_act_310 rfl (lv_at hl 3 rfl) ?_
                refine zr_ifb_eq (tgt := 319) hx hb dL_act_311 (by decide) (fun c43 => ?_) (fun c43 => ?_)
                · refine zr_const hx hb dL_act_319 ?_
                  refine vp_callSi (va_Run.run (va_runS (As := [.int (x >>> ((zI (12)) &&& 31)), .int (zI (5))]) (rest := [.int (zI ((lowI (x >>> ((zI (4)) &&& 31)) (((sN S)) + 1)) - 0)), .int (zI ((lowI (x >>> ((zI (4)) &&& 31)) (((sN S)) + 1)) - 0)), .int (zI (lowI (x >>> ((zI (9)) &&& 31)) 3)), .ref (gA g 0)]) ⟨hx, hb, hml, hown, hts⟩ (kL_low l D k L f (x >>> ((zI (12)) &&& 31)) 5 (by omega)) (va_cwS 2 hts gL_act_L_low rfl rfl rfl (by decide +kernel) ⟨Nat.le_of_ble_eq_true rfl, Nat.le_of_ble_eq_true rfl⟩) (rc_preS hC hP) rfl rfl hl.1 rfl (lv_room (Nat.le_of_ble_eq_true rfl)) dL_act_320 ⟨Nat.zero_le _, Nat.zero_le _⟩)) (fun r44 hr44 => ?_)
                  subst hr44
                  have hl_r44 := lowI_r (x := (x >>> ((zI (12)) &&& 31))) (n := 5) (by omega)
                  refine zr_add hx hb dL_act_323 ?_
                  refine lv_iload_n hx hb dL_act_324 rfl (lv_at hl 3 rfl) ?_
                  refine zr_ifb_eq (tgt := 332) hx hb dL_act_325 (by decide) (fun c45 => ?_) (fun c45 => ?_)
                  · refine zr_const hx hb dL_act_332 ?_
                    refine zr_add hx hb dL_act_333 ?_
                    refine pc_calli (vx_runSW (hh := [(0, 15, 16, 14), (0, 15, 21, 17)]) (As := [.ref (gA g 0), .int (zI (lowI (x >>> ((zI (9)) &&& 31)) 3)), .int (zI ((lowI (x >>> ((zI (4)) &&& 31)) (((sN S)) + 1)) - 0)), .int (zI ((((lowI (x >>> ((zI (4)) &&& 31)) (((sN S)) + 1)) - 0) + (lowI (x >>> ((zI (12)) &&& 31)) 5)) + 1))]) (rest := []) ⟨hx, hb, hml, hown, hts⟩ (kL_mark l D k L f g S hR hO (lowI (x >>> ((zI (9)) &&& 31)) 3) (by omega) ((lowI (x >>> ((zI (4)) &&& 31)) (((sN S)) + 1)) - 0) (by omega) ((((lowI (x >>> ((zI (4)) &&& 31)) (((sN S)) + 1)) - 0) + (lowI (x >>> ((zI (12)) &&& 31)) 5)) + 1) (by omega) hlt n0 _) (vx_cwSW 4 hts gL_act_L_mark rfl rfl rfl (by decide +kernel) ⟨Nat.le_of_ble_eq_true rfl, Nat.le_of_ble_eq_true rfl⟩) (xc_preS hC hX hP (Nat.le_trans hn9 hS.1) hD hS hAn) rfl rfl hl.1 rfl (lv_room (Nat.le_of_ble_eq_true rfl)) dL_act_334 ⟨Nat.le_of_ble_eq_true rfl, Nat.le_of_ble_eq_true rfl⟩) hD hS hA (fun r46 ur46 H locs hr46 hP hD hS hzr46 => ?_)
                    rw [hQ]
                    exact pc_iret hx hb hrt hP (by rw [← hAd]; exact hD) (by rw [← hAd]; exact hS) (wQ.mono hr46 (fun _ _ _ h9 => as_mark c2 (by omega) h9)) dL_act_337 hlocks
                  · exact absurd c45 (by rw [c2]; decide)
                · exact absurd c43 (by rw [c2]; decide)
              · refine lv_tableIn (off := 179) (tgt := 338) hx hb dL_act_159 (by rw [zI_toInt (by omega), q13]; decide) (by rw [zI_toInt (by omega), q13]; decide) (by rw [zI_toInt (by omega), q13]; rfl) (by decide) ?_
                refine lv_aload_n hx hb dL_act_338 rfl (lv_at hl 1 rfl) ?_
                refine lv_iload hx hb dL_act_339 (lv_at hl 6 rfl) ?_
                refine lv_iload_n hx hb dL_act_341 rfl (lv_at hl 2 rfl) ?_
                refine zr_bipush hx hb dL_act_342 (by decide) ?_
                refine lv_ishr hx hb dL_act_344 ?_
                refine zr_const hx hb dL_act_345 ?_
                refine vp_callSi (va_Run.run (va_runS (As := [.int (x >>> ((zI (12)) &&& 31)), .int (zI (5))]) (rest := [.int (zI (lowI (x >>> ((zI (9)) &&& 31)) 3)), .ref (gA g 0)]) ⟨hx, hb, hml, hown, hts⟩ (kL_low l D k L f (x >>> ((zI (12)) &&& 31)) 5 (by omega)) (va_cwS 2 hts gL_act_L_low rfl rfl rfl (by decide +kernel) ⟨Nat.le_of_ble_eq_true rfl, Nat.le_of_ble_eq_true rfl⟩) (rc_preS hC hP) rfl rfl hl.1 rfl (lv_room (Nat.le_of_ble_eq_true rfl)) dL_act_346 ⟨Nat.zero_le _, Nat.zero_le _⟩)) (fun r47 hr47 => ?_)
                subst hr47
                have hl_r47 := lowI_r (x := (x >>> ((zI (12)) &&& 31))) (n := 5) (by omega)
                refine lv_iload_n hx hb dL_act_349 rfl (lv_at hl 3 rfl) ?_
                refine zr_ifb_eq (tgt := 357) hx hb dL_act_350 (by decide) (fun c48 => ?_) (fun c48 => ?_)
                · refine zr_const hx hb dL_act_357 ?_
                  refine zr_sub hx hb dL_act_358 ?_
                  refine pc_calli (vx_runSW (hh := [(0, 6, 7, 14)]) (As := [.ref (gA g 0), .int (zI (lowI (x >>> ((zI (9)) &&& 31)) 3)), .int (zI ((lowI (x >>> ((zI (12)) &&& 31)) 5) - 0))]) (rest := []) ⟨hx, hb, hml, hown, hts⟩ (kL_unmark l D k L f g S hR hO (lowI (x >>> ((zI (9)) &&& 31)) 3) (by omega) ((lowI (x >>> ((zI (12)) &&& 31)) 5) - 0) (by omega) hlt n0 _) (vx_cwSW 3 hts gL_act_L_unmark rfl rfl rfl (by decide +kernel) ⟨Nat.le_of_ble_eq_true rfl, Nat.le_of_ble_eq_true rfl⟩) (xc_preS hC hX hP (Nat.le_trans hn9 hS.1) hD hS hAn) rfl rfl hl.1 rfl (lv_room (Nat.le_of_ble_eq_true rfl)) dL_act_359 ⟨Nat.le_of_ble_eq_true rfl, Nat.le_of_ble_eq_true rfl⟩) hD hS hA (fun r49 ur49 H locs hr49 hP hD hS hzr49 => ?_)
                  rw [hQ]
                  exact pc_iret hx hb hrt hP (by rw [← hAd]; exact hD) (by rw [← hAd]; exact hS) (wQ.mono hr49 (fun _ _ _ h9 => as_un9 c2 (by omega) h9)) dL_act_362 hlocks
                · exact absurd c48 (by rw [c2]; decide)
              · refine lv_tableIn (off := 204) (tgt := 363) hx hb dL_act_159 (by rw [zI_toInt (by omega), q13]; decide) (by rw [zI_toInt (by omega), q13]; decide) (by rw [zI_toInt (by omega), q13]; rfl) (by decide) ?_
                refine lv_iload_n hx hb dL_act_363 rfl (lv_at hl 2 rfl) ?_
                refine zr_bipush hx hb dL_act_364 (by decide) ?_
                refine lv_ishr hx hb dL_act_366 ?_
                refine zr_const hx hb dL_act_367 ?_
                refine vp_callSi (va_Run.run (va_runS (As := [.int (x >>> ((zI (14)) &&& 31)), .int (zI (2))]) (rest := []) ⟨hx, hb, hml, hown, hts⟩ (kL_low l D k L f (x >>> ((zI (14)) &&& 31)) 2 (by omega)) (va_cwS 2 hts gL_act_L_low rfl rfl rfl (by decide +kernel) ⟨Nat.le_of_ble_eq_true rfl, Nat.le_of_ble_eq_true rfl⟩) (rc_preS hC hP) rfl rfl hl.1 rfl (lv_room (Nat.le_of_ble_eq_true rfl)) dL_act_368 ⟨Nat.zero_le _, Nat.zero_le _⟩)) (fun r50 hr50 => ?_)
                subst hr50
                have hl_r50 := lowI_r (x := (x >>> ((zI (14)) &&& 31))) (n := 2) (by omega)
                refine zr_if_ne (tgt := 398) hx hb dL_act_371 (by decide) (by omega) (fun c51 => ?_) (fun c51 => ?_)
                · refine lv_aload_n hx hb dL_act_398 rfl (lv_at hl 1 rfl) ?_
                  refine lv_iload hx hb dL_act_399 (lv_at hl 6 rfl) ?_
                  refine pc_calli (vx_runSW (hh := [(0, 5, 6, 14), (0, 5, 10, 19)]) (As := [.ref (gA g 0), .int (zI (lowI (x >>> ((zI (9)) &&& 31)) 3))]) (rest := []) ⟨hx, hb, hml, hown, hts⟩ (kL_marked l D k L f g S hR hO (lowI (x >>> ((zI (9)) &&& 31)) 3) (by omega) hlt n0 _) (vx_cwSW 2 hts gL_act_L_marked rfl rfl rfl (by decide +kernel) ⟨Nat.le_of_ble_eq_true rfl, Nat.le_of_ble_eq_true rfl⟩) (xc_preS hC hX hP (Nat.le_trans hn9 hS.1) hD hS hAn) rfl rfl hl.1 rfl (lv_room (Nat.le_of_ble_eq_true rfl)) dL_act_401 ⟨Nat.le_of_ble_eq_true rfl, Nat.le_of_ble_eq_true rfl⟩) hD hS hA (fun r52 ur52 H locs hr52 hP hD hS hzr52 => ?_)
                  rw [hQ]
                  exact pc_iret hx hb hrt hP (by rw [← hAd]; exact hD) (by rw [← hAd]; exact hS) (wQ.mono hr52 (fun _ _ _ h9 => as_mkd c2 (by omega) (by assumption) h9)) dL_act_404 hlocks
                · refine lv_aload_n hx hb dL_act_374 rfl (lv_at hl 1 rfl) ?_
                  refine lv_iload_n hx hb dL_act_375 rfl (lv_at hl 2 rfl) ?_
                  refine zr_bipush hx hb dL_act_376 (by decide) ?_
                  refine lv_ishr hx hb dL_act_378 ?_
                  refine lv_iload_n hx hb dL_act_379 rfl (lv_at hl 3 rfl) ?_
                  refine zr_ifb_eq (tgt := 388) hx hb dL_act_380 (by decide) (fun c53 => ?_) (fun c53 => ?_)
                  · refine zr_const hx hb dL_act_388 ?_
                    refine vp_callSi (va_Run.run (va_runS (As := [.int (x >>> ((zI (9)) &&& 31)), .int (zI (3))]) (rest := [.ref (gA g 0)]) ⟨hx, hb, hml, hown, hts⟩ (kL_low l D k L f (x >>> ((zI (9)) &&& 31)) 3 (by omega)) (va_cwS 2 hts gL_act_L_low rfl rfl rfl (by decide +kernel) ⟨Nat.le_of_ble_eq_true rfl, Nat.le_of_ble_eq_true rfl⟩) (rc_preS hC hP) rfl rfl hl.1 rfl (lv_room (Nat.le_of_ble_eq_true rfl)) dL_act_389 ⟨Nat.zero_le _, Nat.zero_le _⟩)) (fun r54 hr54 => ?_)
                    subst hr54
                    have hl_r54 := lowI_r (x := (x >>> ((zI (9)) &&& 31))) (n := 3) (by omega)
                    refine pc_calli (vx_runSW (hh := [(0, 5, 6, 17), (0, 5, 10, 19)]) (As := [.ref (gA g 0), .int (zI (lowI (x >>> ((zI (9)) &&& 31)) 3))]) (rest := []) ⟨hx, hb, hml, hown, hts⟩ (kL_letter l D k L f g S hR hO (lowI (x >>> ((zI (9)) &&& 31)) 3) (by omega) hlt n0 _) (vx_cwSW 2 hts gL_act_L_letter rfl rfl rfl (by decide +kernel) ⟨Nat.le_of_ble_eq_true rfl, Nat.le_of_ble_eq_true rfl⟩) (xc_preS hC hX hP (Nat.le_trans hn9 hS.1) hD hS hAn) rfl rfl hl.1 rfl (lv_room (Nat.le_of_ble_eq_true rfl)) dL_act_392 ⟨Nat.le_of_ble_eq_true rfl, Nat.le_of_ble_eq_true rfl⟩) hD hS hA (fun r55 ur55 H locs hr55 hP hD hS hzr55 => ?_)
                    refine lv_goto (tgt := 404) hx hb dL_act_395 (by decide) ?_
                    rw [hQ]
                    exact pc_iret hx hb hrt hP (by rw [← hAd]; exact hD) (by rw [← hAd]; exact hS) (wQ.mono hr55 (fun _ _ _ h9 => as_let c2 (by omega) (by assumption) h9)) dL_act_404 hlocks
                  · exact absurd c53 (by rw [c2]; decide)
              · refine lv_tableIn (off := 246) (tgt := 405) hx hb dL_act_159 (by rw [zI_toInt (by omega), q13]; decide) (by rw [zI_toInt (by omega), q13]; decide) (by rw [zI_toInt (by omega), q13]; rfl) (by decide) ?_
                refine lv_aload_n hx hb dL_act_405 rfl (lv_at hl 1 rfl) ?_
                refine lv_iload hx hb dL_act_406 (lv_at hl 7 rfl) ?_
                refine lv_iload hx hb dL_act_408 (lv_at hl 8 rfl) ?_
                refine lv_iload_n hx hb dL_act_410 rfl (lv_at hl 3 rfl) ?_
                refine zr_ifb_eq (tgt := 427) hx hb dL_act_411 (by decide) (fun c56 => ?_) (fun c56 => ?_)
                · refine lv_iload_n hx hb dL_act_427 rfl (lv_at hl 2 rfl) ?_
                  refine zr_const hx hb dL_act_428 ?_
                  refine lv_ishr hx hb dL_act_429 ?_
                  refine zr_bipush hx hb dL_act_430 (by decide) ?_
                  refine vp_callSi (va_Run.run (va_runS (As := [.int (x >>> ((zI (4)) &&& 31)), .int (zI (6))]) (rest := [.int (zI (lowI (x >>> ((zI (14)) &&& 31)) (((sC S : Int)) + 1))), .int (zI ((lowI (x >>> ((zI (9)) &&& 31)) (((sC S : Int)) + 1)) - 0)), .ref (gA g 0)]) ⟨hx, hb, hml, hown, hts⟩ (kL_low l D k L f (x >>> ((zI (4)) &&& 31)) 6 (by omega)) (va_cwS 2 hts gL_act_L_low rfl rfl rfl (by decide +kernel) ⟨Nat.le_of_ble_eq_true rfl, Nat.le_of_ble_eq_true rfl⟩) (rc_preS hC hP) rfl rfl hl.1 rfl (lv_room (Nat.le_of_ble_eq_true rfl)) dL_act_432 ⟨Nat.zero_le _, Nat.zero_le _⟩)) (fun r57 hr57 => ?_)
                  subst hr57
                  have hl_r57 := lowI_r (x := (x >>> ((zI (4)) &&& 31))) (n := 6) (by omega)
                  refine pc_calli (vx_runSW (hh := [(0, 7, 8, 14), (0, 7, 13, 17), (0, 7, 18, 19)]) (As := [.ref (gA g 0), .int (zI ((lowI (x >>> ((zI (9)) &&& 31)) (((sC S : Int)) + 1)) - 0)), .int (zI (lowI (x >>> ((zI (14)) &&& 31)) (((sC S : Int)) + 1))), .int (zI (lowI (x >>> ((zI (4)) &&& 31)) 6))]) (rest := []) ⟨hx, hb, hml, hown, hts⟩ (kL_near l D k L f g S hR hO ((lowI (x >>> ((zI (9)) &&& 31)) (((sC S : Int)) + 1)) - 0) (by omega) (lowI (x >>> ((zI (14)) &&& 31)) (((sC S : Int)) + 1)) (by omega) (lowI (x >>> ((zI (4)) &&& 31)) 6) (by omega) hlt n0 _) (vx_cwSW 4 hts gL_act_L_near rfl rfl rfl (by decide +kernel) ⟨Nat.le_of_ble_eq_true rfl, Nat.le_of_ble_eq_true rfl⟩) (xc_preS hC hX hP (Nat.le_trans hn9 hS.1) hD hS hAn) rfl rfl hl.1 rfl (lv_room (Nat.le_of_ble_eq_true rfl)) dL_act_435 ⟨Nat.le_of_ble_eq_true rfl, Nat.le_of_ble_eq_true rfl⟩) hD hS hA (fun r58 ur58 H locs hr58 hP hD hS hzr58 => ?_)
                  rw [hQ]
                  exact pc_iret hx hb hrt hP (by rw [← hAd]; exact hD) (by rw [← hAd]; exact hS) (wQ.mono hr58 (fun _ _ _ h9 => as_near c2 (by omega) h9)) dL_act_438 hlocks
                · exact absurd c56 (by rw [c2]; decide)
              · refine lv_tableIn (off := 280) (tgt := 439) hx hb dL_act_159 (by rw [zI_toInt (by omega), q13]; decide) (by rw [zI_toInt (by omega), q13]; decide) (by rw [zI_toInt (by omega), q13]; rfl) (by decide) ?_
                refine lv_aload_n hx hb dL_act_439 rfl (lv_at hl 1 rfl) ?_
                refine lv_iload hx hb dL_act_440 (lv_at hl 7 rfl) ?_
                refine lv_iload_n hx hb dL_act_442 rfl (lv_at hl 2 rfl) ?_
                refine zr_bipush hx hb dL_act_443 (by decide) ?_
                refine lv_ishr hx hb dL_act_445 ?_
                refine zr_const hx hb dL_act_446 ?_
                refine vp_callSi (va_Run.run (va_runS (As := [.int (x >>> ((zI (14)) &&& 31)), .int (zI (2))]) (rest := [.int (zI ((lowI (x >>> ((zI (9)) &&& 31)) (((sC S : Int)) + 1)) - 0)), .ref (gA g 0)]) ⟨hx, hb, hml, hown, hts⟩ (kL_low l D k L f (x >>> ((zI (14)) &&& 31)) 2 (by omega)) (va_cwS 2 hts gL_act_L_low rfl rfl rfl (by decide +kernel) ⟨Nat.le_of_ble_eq_true rfl, Nat.le_of_ble_eq_true rfl⟩) (rc_preS hC hP) rfl rfl hl.1 rfl (lv_room (Nat.le_of_ble_eq_true rfl)) dL_act_447 ⟨Nat.zero_le _, Nat.zero_le _⟩)) (fun r59 hr59 => ?_)
                subst hr59
                have hl_r59 := lowI_r (x := (x >>> ((zI (14)) &&& 31))) (n := 2) (by omega)
                refine zr_if_ne (tgt := 457) hx hb dL_act_450 (by decide) (by omega) (fun c60 => ?_) (fun c60 => ?_)
                · refine zr_const hx hb dL_act_457 ?_
                  refine zr_top (y := bI (decide (lowI (sh x 14) 2 = 0))) (by rw [decide_eq_false c60]; decide) ?_
                  refine pc_calli (vx_runSW (hh := [(0, 6, 7, 14), (0, 6, 11, 19)]) (As := [.ref (gA g 0), .int (zI ((lowI (x >>> ((zI (9)) &&& 31)) (((sC S : Int)) + 1)) - 0)), .int (bI (decide (lowI (sh x 14) 2 = 0)))]) (rest := []) ⟨hx, hb, hml, hown, hts⟩ (kL_only l D k L f g S hR hO ((lowI (x >>> ((zI (9)) &&& 31)) (((sC S : Int)) + 1)) - 0) (by omega) (decide (lowI (sh x 14) 2 = 0)) hlt n0 _) (vx_cwSW 3 hts gL_act_L_only rfl rfl rfl (by decide +kernel) ⟨Nat.le_of_ble_eq_true rfl, Nat.le_of_ble_eq_true rfl⟩) (xc_preS hC hX hP (Nat.le_trans hn9 hS.1) hD hS hAn) rfl rfl hl.1 rfl (lv_room (Nat.le_of_ble_eq_true rfl)) dL_act_458 ⟨Nat.le_of_ble_eq_true rfl, Nat.le_of_ble_eq_true rfl⟩) hD hS hA (fun r61 ur61 H locs hr61 hP hD hS hzr61 => ?_)
                  rw [hQ]
                  exact pc_iret hx hb hrt hP (by rw [← hAd]; exact hD) (by rw [← hAd]; exact hS) (wQ.mono hr61 (fun _ _ _ h9 => as_only c2 (by omega) h9)) dL_act_461 hlocks
                · refine zr_const hx hb dL_act_453 ?_
                  refine lv_goto (tgt := 458) hx hb dL_act_454 (by decide) ?_
                  refine zr_top (y := bI (decide (lowI (sh x 14) 2 = 0))) (by rw [decide_eq_true c60]; decide) ?_
                  refine pc_calli (vx_runSW (hh := [(0, 6, 7, 14), (0, 6, 11, 19)]) (As := [.ref (gA g 0), .int (zI ((lowI (x >>> ((zI (9)) &&& 31)) (((sC S : Int)) + 1)) - 0)), .int (bI (decide (lowI (sh x 14) 2 = 0)))]) (rest := []) ⟨hx, hb, hml, hown, hts⟩ (kL_only l D k L f g S hR hO ((lowI (x >>> ((zI (9)) &&& 31)) (((sC S : Int)) + 1)) - 0) (by omega) (decide (lowI (sh x 14) 2 = 0)) hlt n0 _) (vx_cwSW 3 hts gL_act_L_only rfl rfl rfl (by decide +kernel) ⟨Nat.le_of_ble_eq_true rfl, Nat.le_of_ble_eq_true rfl⟩) (xc_preS hC hX hP (Nat.le_trans hn9 hS.1) hD hS hAn) rfl rfl hl.1 rfl (lv_room (Nat.le_of_ble_eq_true rfl)) dL_act_458 ⟨Nat.le_of_ble_eq_true rfl, Nat.le_of_ble_eq_true rfl⟩) hD hS hA (fun r62 ur62 H locs hr62 hP hD hS hzr62 => ?_)
                  rw [hQ]
                  exact pc_iret hx hb hrt hP (by rw [← hAd]; exact hD) (by rw [← hAd]; exact hS) (wQ.mono hr62 (fun _ _ _ h9 => as_only c2 (by omega) h9)) dL_act_461 hlocks
              · refine lv_tableIn (off := 348) (tgt := 507) hx hb dL_act_159 (by rw [zI_toInt (by omega), q13]; decide) (by rw [zI_toInt (by omega), q13]; decide) (by rw [zI_toInt (by omega), q13]; rfl) (by decide) ?_
                refine lv_aload_n hx hb dL_act_507 rfl (lv_at hl 1 rfl) ?_
                refine lv_iload_n hx hb dL_act_508 rfl (lv_at hl 3 rfl) ?_
                refine zr_ifb_eq (tgt := 525) hx hb dL_act_509 (by decide) (fun c63 => ?_) (fun c63 => ?_)
                · refine lv_iload_n hx hb dL_act_525 rfl (lv_at hl 2 rfl) ?_
                  refine zr_const hx hb dL_act_526 ?_
                  refine lv_ishr hx hb dL_act_527 ?_
                  refine zr_bipush hx hb dL_act_528 (by decide) ?_
                  refine vp_callSi (va_Run.run (va_runS (As := [.int (x >>> ((zI (4)) &&& 31)), .int (zI (10))]) (rest := [.ref (gA g 0)]) ⟨hx, hb, hml, hown, hts⟩ (kL_low l D k L f (x >>> ((zI (4)) &&& 31)) 10 (by omega)) (va_cwS 2 hts gL_act_L_low rfl rfl rfl (by decide +kernel) ⟨Nat.le_of_ble_eq_true rfl, Nat.le_of_ble_eq_true rfl⟩) (rc_preS hC hP) rfl rfl hl.1 rfl (lv_room (Nat.le_of_ble_eq_true rfl)) dL_act_530 ⟨Nat.zero_le _, Nat.zero_le _⟩)) (fun r64 hr64 => ?_)
                  subst hr64
                  have hl_r64 := lowI_r (x := (x >>> ((zI (4)) &&& 31))) (n := 10) (by omega)
                  refine lv_iload hx hb dL_act_533 (lv_at hl 7 rfl) ?_
                  refine lv_iload hx hb dL_act_535 (lv_at hl 8 rfl) ?_
                  refine pc_calli (vx_runSW (hh := [(0, 7, 8, 14), (0, 7, 13, 17), (0, 7, 18, 19)]) (As := [.ref (gA g 0), .int (zI (lowI (x >>> ((zI (4)) &&& 31)) 10)), .int (zI ((lowI (x >>> ((zI (9)) &&& 31)) (((sC S : Int)) + 1)) - 0)), .int (zI (lowI (x >>> ((zI (14)) &&& 31)) (((sC S : Int)) + 1)))]) (rest := []) ⟨hx, hb, hml, hown, hts⟩ (kL_pair l D k L f g S hR hO ((lowI (x >>> ((zI (9)) &&& 31)) (((sC S : Int)) + 1)) - 0) (by omega) (lowI (x >>> ((zI (14)) &&& 31)) (((sC S : Int)) + 1)) (by omega) (lowI (x >>> ((zI (4)) &&& 31)) 10) (by omega) hlt n0 _) (vx_cwSW 4 hts gL_act_L_pair rfl rfl rfl (by decide +kernel) ⟨Nat.le_of_ble_eq_true rfl, Nat.le_of_ble_eq_true rfl⟩) (xc_preS hC hX hP (Nat.le_trans hn9 hS.1) hD hS hAn) rfl rfl hl.1 rfl (lv_room (Nat.le_of_ble_eq_true rfl)) dL_act_537 ⟨Nat.le_of_ble_eq_true rfl, Nat.le_of_ble_eq_true rfl⟩) hD hS hA (fun r65 ur65 H locs hr65 hP hD hS hzr65 => ?_)
                  rw [hQ]
                  exact pc_iret hx hb hrt hP (by rw [← hAd]; exact hD) (by rw [← hAd]; exact hS) (wQ.mono hr65 (fun _ _ _ h9 => as_pair c2 (by omega) h9)) dL_act_540 hlocks
                · exact absurd c63 (by rw [c2]; decide)
              · refine lv_tableIn (off := 348) (tgt := 507) hx hb dL_act_159 (by rw [zI_toInt (by omega), q13]; decide) (by rw [zI_toInt (by omega), q13]; decide) (by rw [zI_toInt (by omega), q13]; rfl) (by decide) ?_
                refine lv_aload_n hx hb dL_act_507 rfl (lv_at hl 1 rfl) ?_
                refine lv_iload_n hx hb dL_act_508 rfl (lv_at hl 3 rfl) ?_
                refine zr_ifb_eq (tgt := 525) hx hb dL_act_509 (by decide) (fun c66 => ?_) (fun c66 => ?_)
                · refine lv_iload_n hx hb dL_act_525 rfl (lv_at hl 2 rfl) ?_
                  refine zr_const hx hb dL_act_526 ?_
                  refine lv_ishr hx hb dL_act_527 ?_
                  refine zr_bipush hx hb dL_act_528 (by decide) ?_
                  refine vp_callSi (va_Run.run (va_runS (As := [.int (x >>> ((zI (4)) &&& 31)), .int (zI (10))]) (rest := [.ref (gA g 0)]) ⟨hx, hb, hml, hown, hts⟩ (kL_low l D k L f (x >>> ((zI (4)) &&& 31)) 10 (by omega)) (va_cwS 2 hts gL_act_L_low rfl rfl rfl (by decide +kernel) ⟨Nat.le_of_ble_eq_true rfl, Nat.le_of_ble_eq_true rfl⟩) (rc_preS hC hP) rfl rfl hl.1 rfl (lv_room (Nat.le_of_ble_eq_true rfl)) dL_act_530 ⟨Nat.zero_le _, Nat.zero_le _⟩)) (fun r67 hr67 => ?_)
                  subst hr67
                  have hl_r67 := lowI_r (x := (x >>> ((zI (4)) &&& 31))) (n := 10) (by omega)
                  refine lv_iload hx hb dL_act_533 (lv_at hl 7 rfl) ?_
                  refine lv_iload hx hb dL_act_535 (lv_at hl 8 rfl) ?_
                  refine pc_calli (vx_runSW (hh := [(0, 7, 8, 14), (0, 7, 13, 17), (0, 7, 18, 19)]) (As := [.ref (gA g 0), .int (zI (lowI (x >>> ((zI (4)) &&& 31)) 10)), .int (zI ((lowI (x >>> ((zI (9)) &&& 31)) (((sC S : Int)) + 1)) - 0)), .int (zI (lowI (x >>> ((zI (14)) &&& 31)) (((sC S : Int)) + 1)))]) (rest := []) ⟨hx, hb, hml, hown, hts⟩ (kL_pair l D k L f g S hR hO ((lowI (x >>> ((zI (9)) &&& 31)) (((sC S : Int)) + 1)) - 0) (by omega) (lowI (x >>> ((zI (14)) &&& 31)) (((sC S : Int)) + 1)) (by omega) (lowI (x >>> ((zI (4)) &&& 31)) 10) (by omega) hlt n0 _) (vx_cwSW 4 hts gL_act_L_pair rfl rfl rfl (by decide +kernel) ⟨Nat.le_of_ble_eq_true rfl, Nat.le_of_ble_eq_true rfl⟩) (xc_preS hC hX hP (Nat.le_trans hn9 hS.1) hD hS hAn) rfl rfl hl.1 rfl (lv_room (Nat.le_of_ble_eq_true rfl)) dL_act_537 ⟨Nat.le_of_ble_eq_true rfl, Nat.le_of_ble_eq_true rfl⟩) hD hS hA (fun r68 ur68 H locs hr68 hP hD hS hzr68 => ?_)
                  rw [hQ]
                  exact pc_iret hx hb hrt hP (by rw [← hAd]; exact hD) (by rw [← hAd]; exact hS) (wQ.mono hr68 (fun _ _ _ h9 => as_pair c2 (by omega) h9)) dL_act_540 hlocks
                · exact absurd c66 (by rw [c2]; decide)
              · refine lv_tableIn (off := 348) (tgt := 507) hx hb dL_act_159 (by rw [zI_toInt (by omega), q13]; decide) (by rw [zI_toInt (by omega), q13]; decide) (by rw [zI_toInt (by omega), q13]; rfl) (by decide) ?_
                refine lv_aload_n hx hb dL_act_507 rfl (lv_at hl 1 rfl) ?_
                refine lv_iload_n hx hb dL_act_508 rfl (lv_at hl 3 rfl) ?_
                refine zr_ifb_eq (tgt := 525) hx hb dL_act_509 (by decide) (fun c69 => ?_) (fun c69 => ?_)
                · refine lv_iload_n hx hb dL_act_525 rfl (lv_at hl 2 rfl) ?_
                  refine zr_const hx hb dL_act_526 ?_
                  refine lv_ishr hx hb dL_act_527 ?_
                  refine zr_bipush hx hb dL_act_528 (by decide) ?_
                  refine vp_callSi (va_Run.run (va_runS (As := [.int (x >>> ((zI (4)) &&& 31)), .int (zI (10))]) (rest := [.ref (gA g 0)]) ⟨hx, hb, hml, hown, hts⟩ (kL_low l D k L f (x >>> ((zI (4)) &&& 31)) 10 (by omega)) (va_cwS 2 hts gL_act_L_low rfl rfl rfl (by decide +kernel) ⟨Nat.le_of_ble_eq_true rfl, Nat.le_of_ble_eq_true rfl⟩) (rc_preS hC hP) rfl rfl hl.1 rfl (lv_room (Nat.le_of_ble_eq_true rfl)) dL_act_530 ⟨Nat.zero_le _, Nat.zero_le _⟩)) (fun r70 hr70 => ?_)
                  subst hr70
                  have hl_r70 := lowI_r (x := (x >>> ((zI (4)) &&& 31))) (n := 10) (by omega)
                  refine lv_iload hx hb dL_act_533 (lv_at hl 7 rfl) ?_
                  refine lv_iload hx hb dL_act_535 (lv_at hl 8 rfl) ?_
                  refine pc_calli (vx_runSW (hh := [(0, 7, 8, 14), (0, 7, 13, 17), (0, 7, 18, 19)]) (As := [.ref (gA g 0), .int (zI (lowI (x >>> ((zI (4)) &&& 31)) 10)), .int (zI ((lowI (x >>> ((zI (9)) &&& 31)) (((sC S : Int)) + 1)) - 0)), .int (zI (lowI (x >>> ((zI (14)) &&& 31)) (((sC S : Int)) + 1)))]) (rest := []) ⟨hx, hb, hml, hown, hts⟩ (kL_pair l D k L f g S hR hO ((lowI (x >>> ((zI (9)) &&& 31)) (((sC S : Int)) + 1)) - 0) (by omega) (lowI (x >>> ((zI (14)) &&& 31)) (((sC S : Int)) + 1)) (by omega) (lowI (x >>> ((zI (4)) &&& 31)) 10) (by omega) hlt n0 _) (vx_cwSW 4 hts gL_act_L_pair rfl rfl rfl (by decide +kernel) ⟨Nat.le_of_ble_eq_true rfl, Nat.le_of_ble_eq_true rfl⟩) (xc_preS hC hX hP (Nat.le_trans hn9 hS.1) hD hS hAn) rfl rfl hl.1 rfl (lv_room (Nat.le_of_ble_eq_true rfl)) dL_act_537 ⟨Nat.le_of_ble_eq_true rfl, Nat.le_of_ble_eq_true rfl⟩) hD hS hA (fun r71 ur71 H locs hr71 hP hD hS hzr71 => ?_)
                  rw [hQ]
                  exact pc_iret hx hb hrt hP (by rw [← hAd]; exact hD) (by rw [← hAd]; exact hS) (wQ.mono hr71 (fun _ _ _ h9 => as_pair c2 (by omega) h9)) dL_act_540 hlocks
                · exact absurd c69 (by rw [c2]; decide)
              · refine lv_tableIn (off := 303) (tgt := 462) hx hb dL_act_159 (by rw [zI_toInt (by omega), q13]; decide) (by rw [zI_toInt (by omega), q13]; decide) (by rw [zI_toInt (by omega), q13]; rfl) (by decide) ?_
                refine lv_iload_n hx hb dL_act_462 rfl (lv_at hl 2 rfl) ?_
                refine zr_bipush hx hb dL_act_463 (by decide) ?_
                refine lv_ishr hx hb dL_act_465 ?_
                refine zr_const hx hb dL_act_466 ?_
                refine vp_callSi (va_Run.run (va_runS (As := [.int (x >>> ((zI (14)) &&& 31)), .int (zI (2))]) (rest := []) ⟨hx, hb, hml, hown, hts⟩ (kL_low l D k L f (x >>> ((zI (14)) &&& 31)) 2 (by omega)) (va_cwS 2 hts gL_act_L_low rfl rfl rfl (by decide +kernel) ⟨Nat.le_of_ble_eq_true rfl, Nat.le_of_ble_eq_true rfl⟩) (rc_preS hC hP) rfl rfl hl.1 rfl (lv_room (Nat.le_of_ble_eq_true rfl)) dL_act_467 ⟨Nat.zero_le _, Nat.zero_le _⟩)) (fun r72 hr72 => ?_)
                subst hr72
                have hl_r72 := lowI_r (x := (x >>> ((zI (14)) &&& 31))) (n := 2) (by omega)
                refine zr_if_ne (tgt := 482) hx hb dL_act_470 (by decide) (by omega) (fun c73 => ?_) (fun c73 => ?_)
                · refine lv_aload_n hx hb dL_act_482 rfl (lv_at hl 1 rfl) ?_
                  refine lv_iload hx hb dL_act_483 (lv_at hl 6 rfl) ?_
                  refine lv_iload_n hx hb dL_act_485 rfl (lv_at hl 2 rfl) ?_
                  refine zr_bipush hx hb dL_act_486 (by decide) ?_
                  refine lv_ishr hx hb dL_act_488 ?_
                  refine zr_const hx hb dL_act_489 ?_
                  refine vp_callSi (va_Run.run (va_runS (As := [.int (x >>> ((zI (12)) &&& 31)), .int (zI (5))]) (rest := [.int (zI (lowI (x >>> ((zI (9)) &&& 31)) 3)), .ref (gA g 0)]) ⟨hx, hb, hml, hown, hts⟩ (kL_low l D k L f (x >>> ((zI (12)) &&& 31)) 5 (by omega)) (va_cwS 2 hts gL_act_L_low rfl rfl rfl (by decide +kernel) ⟨Nat.le_of_ble_eq_true rfl, Nat.le_of_ble_eq_true rfl⟩) (rc_preS hC hP) rfl rfl hl.1 rfl (lv_room (Nat.le_of_ble_eq_true rfl)) dL_act_490 ⟨Nat.zero_le _, Nat.zero_le _⟩)) (fun r74 hr74 => ?_)
                  subst hr74
                  have hl_r74 := lowI_r (x := (x >>> ((zI (12)) &&& 31))) (n := 5) (by omega)
                  refine lv_iload_n hx hb dL_act_493 rfl (lv_at hl 3 rfl) ?_
                  refine zr_ifb_eq (tgt := 501) hx hb dL_act_494 (by decide) (fun c75 => ?_) (fun c75 => ?_)
                  · refine zr_const hx hb dL_act_501 ?_
                    refine zr_sub hx hb dL_act_502 ?_
                    refine pc_calli (vx_runSW (hh := [(0, 6, 7, 14)]) (As := [.ref (gA g 0), .int (zI (lowI (x >>> ((zI (9)) &&& 31)) 3)), .int (zI ((lowI (x >>> ((zI (12)) &&& 31)) 5) - 0))]) (rest := []) ⟨hx, hb, hml, hown, hts⟩ (kL_unmark l D k L f g S hR hO (lowI (x >>> ((zI (9)) &&& 31)) 3) (by omega) ((lowI (x >>> ((zI (12)) &&& 31)) 5) - 0) (by omega) hlt n0 _) (vx_cwSW 3 hts gL_act_L_unmark rfl rfl rfl (by decide +kernel) ⟨Nat.le_of_ble_eq_true rfl, Nat.le_of_ble_eq_true rfl⟩) (xc_preS hC hX hP (Nat.le_trans hn9 hS.1) hD hS hAn) rfl rfl hl.1 rfl (lv_room (Nat.le_of_ble_eq_true rfl)) dL_act_503 ⟨Nat.le_of_ble_eq_true rfl, Nat.le_of_ble_eq_true rfl⟩) hD hS hA (fun r76 ur76 H locs hr76 hP hD hS hzr76 => ?_)
                    rw [hQ]
                    exact pc_iret hx hb hrt hP (by rw [← hAd]; exact hD) (by rw [← hAd]; exact hS) (wQ.mono hr76 (fun _ _ _ h9 => as_un16 c2 (by omega) (by assumption) h9)) dL_act_506 hlocks
                  · exact absurd c75 (by rw [c2]; decide)
                · refine lv_aload_n hx hb dL_act_473 rfl (lv_at hl 1 rfl) ?_
                  refine lv_iload hx hb dL_act_474 (lv_at hl 5 rfl) ?_
                  refine pc_calli (vx_runSW (hh := [(0, 5, 6, 14)]) (As := [.ref (gA g 0), .int (zI ((lowI (x >>> ((zI (4)) &&& 31)) (((sN S)) + 1)) - 0))]) (rest := []) ⟨hx, hb, hml, hown, hts⟩ (kL_remove l D k L f g S hR hO ((lowI (x >>> ((zI (4)) &&& 31)) (((sN S)) + 1)) - 0) (by omega) hlt n0 _) (vx_cwSW 2 hts gL_act_L_remove rfl rfl rfl (by decide +kernel) ⟨Nat.le_of_ble_eq_true rfl, Nat.le_of_ble_eq_true rfl⟩) (xc_preS hC hX hP (Nat.le_trans hn9 hS.1) hD hS hAn) rfl rfl hl.1 rfl (lv_room (Nat.le_of_ble_eq_true rfl)) dL_act_476 ⟨Nat.le_of_ble_eq_true rfl, Nat.le_of_ble_eq_true rfl⟩) hD hS hA (fun r77 ur77 H locs hr77 hP hD hS hzr77 => ?_)
                  refine lv_goto (tgt := 506) hx hb dL_act_479 (by decide) ?_
                  rw [hQ]
                  exact pc_iret hx hb hrt hP (by rw [← hAd]; exact hD) (by rw [← hAd]; exact hS) (wQ.mono hr77 (fun _ _ _ h9 => as_rem16 c2 (by omega) (by assumption) h9)) dL_act_506 hlocks
              · exfalso; omega
            refine lv_iload hx hb dL_act_120 (lv_at hl 0 rfl) ?_
            refine zr_const hx hb dL_act_122 ?_
            refine zr_icmp_ge (tgt := 132) hx hb dL_act_123 (by decide) (by omega) (by omega) (fun c78 => ?_) (fun c78 => ?_)
            · refine lv_iload hx hb dL_act_132 (lv_at hl 0 rfl) ?_
              refine zr_bipush hx hb dL_act_134 (by decide) ?_
              refine zr_icmp_le (tgt := 153) hx hb dL_act_136 (by decide) (by omega) (by omega) (fun c79 => ?_) (fun c79 => ?_)
              · refine lv_iload hx hb dL_act_153 (lv_at hl 0 rfl) ?_
                refine zr_top (y := zI (aWhat x (sN S) (sC S : Int))) (congrArg zI (by unfold aWhat; rw [if_neg (by omega)])) ?_
                exact cut_155 () _ _ hP hD hS _ (lv_sub hl [7, 8, 6, 5, 4, 3, 2, 1, 0] rfl)
              · refine lv_aload_n hx hb dL_act_139 rfl (lv_at hl 7 rfl) ?_
                refine vp_callSi (va_Run.run (va_runV (As := []) (rest := []) ⟨hx, hb, hml, hown, hts⟩ (kX9_nodes l D k L f g S hR hO) (cwV 0 hts gL_act_X9_nodes rfl rfl rfl (by decide +kernel) ⟨Nat.le_of_ble_eq_true rfl, Nat.le_of_ble_eq_true rfl⟩) (rc_preV hC hP (pl_recv hK hP (hR.2.1 0 (by decide)) hR.1.1 (ci := 8) (q := (RX9, TX9, 3)) rfl)) rfl rfl hl.1 rfl (lv_room (Nat.le_of_ble_eq_true rfl)) dL_act_140 ⟨Nat.zero_le _, Nat.zero_le _⟩)) (fun r80 hr80 => ?_)
                subst hr80
                refine zr_bipush hx hb dL_act_143 (by decide) ?_
                refine zr_icmp_le (tgt := 153) hx hb dL_act_145 (by decide) (by omega) (by omega) (fun c81 => ?_) (fun c81 => ?_)
                · refine lv_iload hx hb dL_act_153 (lv_at hl 0 rfl) ?_
                  refine zr_top (y := zI (aWhat x (sN S) (sC S : Int))) (congrArg zI (by unfold aWhat; rw [if_neg (by omega)])) ?_
                  exact cut_155 () _ _ hP hD hS _ (lv_sub hl [7, 8, 6, 5, 4, 3, 2, 1, 0] rfl)
                · refine zr_bipush hx hb dL_act_148 (by decide) ?_
                  refine lv_goto (tgt := 155) hx hb dL_act_150 (by decide) ?_
                  refine zr_top (y := zI (aWhat x (sN S) (sC S : Int))) (congrArg zI (by unfold aWhat; rw [if_pos (by omega)])) ?_
                  exact cut_155 () _ _ hP hD hS _ (lv_sub hl [7, 8, 6, 5, 4, 3, 2, 1, 0] rfl)
            · refine lv_iload_n hx hb dL_act_126 rfl (lv_at hl 5 rfl) ?_
              refine zr_bipush hx hb dL_act_127 (by decide) ?_
              refine zr_icmp_gt (tgt := 148) hx hb dL_act_129 (by decide) (by omega) (by omega) (fun c82 => ?_) (fun c82 => ?_)
              · refine zr_bipush hx hb dL_act_148 (by decide) ?_
                refine lv_goto (tgt := 155) hx hb dL_act_150 (by decide) ?_
                refine zr_top (y := zI (aWhat x (sN S) (sC S : Int))) (congrArg zI (by unfold aWhat; rw [if_pos (by omega)])) ?_
                exact cut_155 () _ _ hP hD hS _ (lv_sub hl [7, 8, 6, 5, 4, 3, 2, 1, 0] rfl)
              · refine lv_iload hx hb dL_act_132 (lv_at hl 0 rfl) ?_
                refine zr_bipush hx hb dL_act_134 (by decide) ?_
                refine zr_icmp_le (tgt := 153) hx hb dL_act_136 (by decide) (by omega) (by omega) (fun c83 => ?_) (fun c83 => ?_)
                · refine lv_iload hx hb dL_act_153 (lv_at hl 0 rfl) ?_
                  refine zr_top (y := zI (aWhat x (sN S) (sC S : Int))) (congrArg zI (by unfold aWhat; rw [if_neg (by omega)])) ?_
                  exact cut_155 () _ _ hP hD hS _ (lv_sub hl [7, 8, 6, 5, 4, 3, 2, 1, 0] rfl)
                · refine lv_aload_n hx hb dL_act_139 rfl (lv_at hl 7 rfl) ?_
                  refine vp_callSi (va_Run.run (va_runV (As := []) (rest := []) ⟨hx, hb, hml, hown, hts⟩ (kX9_nodes l D k L f g S hR hO) (cwV 0 hts gL_act_X9_nodes rfl rfl rfl (by decide +kernel) ⟨Nat.le_of_ble_eq_true rfl, Nat.le_of_ble_eq_true rfl⟩) (rc_preV hC hP (pl_recv hK hP (hR.2.1 0 (by decide)) hR.1.1 (ci := 8) (q := (RX9, TX9, 3)) rfl)) rfl rfl hl.1 rfl (lv_room (Nat.le_of_ble_eq_true rfl)) dL_act_140 ⟨Nat.zero_le _, Nat.zero_le _⟩)) (fun r84 hr84 => ?_)
                  subst hr84
                  refine zr_bipush hx hb dL_act_143 (by decide) ?_
                  refine zr_icmp_le (tgt := 153) hx hb dL_act_145 (by decide) (by omega) (by omega) (fun c85 => ?_) (fun c85 => ?_)
                  · refine lv_iload hx hb dL_act_153 (lv_at hl 0 rfl) ?_
                    refine zr_top (y := zI (aWhat x (sN S) (sC S : Int))) (congrArg zI (by unfold aWhat; rw [if_neg (by omega)])) ?_
                    exact cut_155 () _ _ hP hD hS _ (lv_sub hl [7, 8, 6, 5, 4, 3, 2, 1, 0] rfl)
                  · refine zr_bipush hx hb dL_act_148 (by decide) ?_
                    refine lv_goto (tgt := 155) hx hb dL_act_150 (by decide) ?_
                    refine zr_top (y := zI (aWhat x (sN S) (sC S : Int))) (congrArg zI (by unfold aWhat; rw [if_pos (by omega)])) ?_
                    exact cut_155 () _ _ hP hD hS _ (lv_sub hl [7, 8, 6, 5, 4, 3, 2, 1, 0] rfl)
          · exact absurd c9 (by rw [c2]; decide)
        · exact absurd c5 (by rw [c2]; decide)
      · exact absurd c4 (by rw [c2]; decide)
    · refine lv_iload_n hx hb dL_act_30 rfl (lv_at hl 0 rfl) ?_
      refine zr_const hx hb dL_act_31 ?_
      refine zr_add hx hb dL_act_32 ?_
      refine lv_goto (tgt := 39) hx hb dL_act_33 (by decide) ?_
      refine vp_callSi (va_Run.run (va_runS (As := [.int (x >>> ((zI (4)) &&& 31)), .int (zI (((sN S)) + 3))]) (rest := []) ⟨hx, hb, hml, hown, hts⟩ (kL_low l D k L f (x >>> ((zI (4)) &&& 31)) (((sN S)) + 3) (by omega)) (va_cwS 2 hts gL_act_L_low rfl rfl rfl (by decide +kernel) ⟨Nat.le_of_ble_eq_true rfl, Nat.le_of_ble_eq_true rfl⟩) (rc_preS hC hP) rfl rfl hl.1 rfl (lv_room (Nat.le_of_ble_eq_true rfl)) dL_act_39 ⟨Nat.zero_le _, Nat.zero_le _⟩)) (fun r86 hr86 => ?_)
      subst hr86
      have hl_r86 := lowI_r (x := (x >>> ((zI (4)) &&& 31))) (n := (((sN S)) + 3)) (by omega)
      refine lv_iload_n hx hb dL_act_42 rfl (lv_at hl 1 rfl) ?_
      refine zr_ifb_eq (tgt := 50) hx hb dL_act_43 (by decide) (fun c87 => ?_) (fun c87 => ?_)
      · exact absurd c87 (by rw [c2]; decide)
      · refine zr_const hx hb dL_act_46 ?_
        refine lv_goto (tgt := 51) hx hb dL_act_47 (by decide) ?_
        refine zr_sub hx hb dL_act_51 ?_
        refine lv_istore (lv' := [(4, .int (zI ((lowI (x >>> ((zI (4)) &&& 31)) (((sN S)) + 3)) - 1))), (3, .int (zI ((sN S)))), (2, .int (bI (aOdd x))), (0, .ref (gA g 0)), (1, .int (x))]) hx hb dL_act_52 hl (by decide) rfl (fun ls hl => ?_)
        refine lv_iload_n hx hb dL_act_54 rfl (lv_at hl 4 rfl) ?_
        refine zr_bipush hx hb dL_act_55 (by decide) ?_
        refine lv_ishr hx hb dL_act_57 ?_
        refine lv_iload_n hx hb dL_act_58 rfl (lv_at hl 2 rfl) ?_
        refine zr_ifb_eq (tgt := 66) hx hb dL_act_59 (by decide) (fun c88 => ?_) (fun c88 => ?_)
        · exact absurd c88 (by rw [c2]; decide)
        · refine zr_const hx hb dL_act_62 ?_
          refine lv_goto (tgt := 67) hx hb dL_act_63 (by decide) ?_
          refine vp_callSi (va_Run.run (va_runS (As := [.int (x >>> ((zI (9)) &&& 31)), .int (zI (5))]) (rest := []) ⟨hx, hb, hml, hown, hts⟩ (kL_low l D k L f (x >>> ((zI (9)) &&& 31)) 5 (by omega)) (va_cwS 2 hts gL_act_L_low rfl rfl rfl (by decide +kernel) ⟨Nat.le_of_ble_eq_true rfl, Nat.le_of_ble_eq_true rfl⟩) (rc_preS hC hP) rfl rfl hl.1 rfl (lv_room (Nat.le_of_ble_eq_true rfl)) dL_act_67 ⟨Nat.zero_le _, Nat.zero_le _⟩)) (fun r89 hr89 => ?_)
          subst hr89
          have hl_r89 := lowI_r (x := (x >>> ((zI (9)) &&& 31))) (n := 5) (by omega)
          refine lv_istore (lv' := [(5, .int (zI (lowI (x >>> ((zI (9)) &&& 31)) 5))), (4, .int (zI ((lowI (x >>> ((zI (4)) &&& 31)) (((sN S)) + 3)) - 1))), (3, .int (zI ((sN S)))), (2, .int (bI (aOdd x))), (0, .ref (gA g 0)), (1, .int (x))]) hx hb dL_act_70 hl (by decide) rfl (fun ls hl => ?_)
          refine lv_iload_n hx hb dL_act_72 rfl (lv_at hl 5 rfl) ?_
          refine zr_bipush hx hb dL_act_73 (by decide) ?_
          refine lv_ishr hx hb dL_act_75 ?_
          refine lv_aload_n hx hb dL_act_76 rfl (lv_at hl 4 rfl) ?_
          refine vp_callSi (va_Run.run (va_runV (As := []) (rest := [.int (x >>> ((zI (9)) &&& 31))]) ⟨hx, hb, hml, hown, hts⟩ (kX9_nodes l D k L f g S hR hO) (cwV 0 hts gL_act_X9_nodes rfl rfl rfl (by decide +kernel) ⟨Nat.le_of_ble_eq_true rfl, Nat.le_of_ble_eq_true rfl⟩) (rc_preV hC hP (pl_recv hK hP (hR.2.1 0 (by decide)) hR.1.1 (ci := 8) (q := (RX9, TX9, 3)) rfl)) rfl rfl hl.1 rfl (lv_room (Nat.le_of_ble_eq_true rfl)) dL_act_77 ⟨Nat.zero_le _, Nat.zero_le _⟩)) (fun r90 hr90 => ?_)
          subst hr90
          refine zr_const hx hb dL_act_80 ?_
          refine zr_add hx hb dL_act_81 ?_
          refine vp_callSi (va_Run.run (va_runS (As := [.int (x >>> ((zI (9)) &&& 31)), .int (zI (((sC S : Int)) + 1))]) (rest := []) ⟨hx, hb, hml, hown, hts⟩ (kL_low l D k L f (x >>> ((zI (9)) &&& 31)) (((sC S : Int)) + 1) (by omega)) (va_cwS 2 hts gL_act_L_low rfl rfl rfl (by decide +kernel) ⟨Nat.le_of_ble_eq_true rfl, Nat.le_of_ble_eq_true rfl⟩) (rc_preS hC hP) rfl rfl hl.1 rfl (lv_room (Nat.le_of_ble_eq_true rfl)) dL_act_82 ⟨Nat.zero_le _, Nat.zero_le _⟩)) (fun r91 hr91 => ?_)
          subst hr91
          have hl_r91 := lowI_r (x := (x >>> ((zI (9)) &&& 31))) (n := (((sC S : Int)) + 1)) (by omega)
          refine lv_iload_n hx hb dL_act_85 rfl (lv_at hl 3 rfl) ?_
          refine zr_ifb_eq (tgt := 93) hx hb dL_act_86 (by decide) (fun c92 => ?_) (fun c92 => ?_)
          · exact absurd c92 (by rw [c2]; decide)
          · refine zr_const hx hb dL_act_89 ?_
            refine lv_goto (tgt := 94) hx hb dL_act_90 (by decide) ?_
            refine zr_sub hx hb dL_act_94 ?_
            refine lv_istore (lv' := [(6, .int (zI ((lowI (x >>> ((zI (9)) &&& 31)) (((sC S : Int)) + 1)) - 1))), (5, .int (zI (lowI (x >>> ((zI (9)) &&& 31)) 5))), (4, .int (zI ((lowI (x >>> ((zI (4)) &&& 31)) (((sN S)) + 3)) - 1))), (3, .int (zI ((sN S)))), (2, .int (bI (aOdd x))), (0, .ref (gA g 0)), (1, .int (x))]) hx hb dL_act_95 hl (by decide) rfl (fun ls hl => ?_)
            refine lv_iload_n hx hb dL_act_97 rfl (lv_at hl 6 rfl) ?_
            refine zr_bipush hx hb dL_act_98 (by decide) ?_
            refine lv_ishr hx hb dL_act_100 ?_
            refine lv_aload_n hx hb dL_act_101 rfl (lv_at hl 5 rfl) ?_
            refine vp_callSi (va_Run.run (va_runV (As := []) (rest := [.int (x >>> ((zI (14)) &&& 31))]) ⟨hx, hb, hml, hown, hts⟩ (kX9_nodes l D k L f g S hR hO) (cwV 0 hts gL_act_X9_nodes rfl rfl rfl (by decide +kernel) ⟨Nat.le_of_ble_eq_true rfl, Nat.le_of_ble_eq_true rfl⟩) (rc_preV hC hP (pl_recv hK hP (hR.2.1 0 (by decide)) hR.1.1 (ci := 8) (q := (RX9, TX9, 3)) rfl)) rfl rfl hl.1 rfl (lv_room (Nat.le_of_ble_eq_true rfl)) dL_act_102 ⟨Nat.zero_le _, Nat.zero_le _⟩)) (fun r93 hr93 => ?_)
            subst hr93
            refine zr_const hx hb dL_act_105 ?_
            refine zr_add hx hb dL_act_106 ?_
            refine vp_callSi (va_Run.run (va_runS (As := [.int (x >>> ((zI (14)) &&& 31)), .int (zI (((sC S : Int)) + 1))]) (rest := []) ⟨hx, hb, hml, hown, hts⟩ (kL_low l D k L f (x >>> ((zI (14)) &&& 31)) (((sC S : Int)) + 1) (by omega)) (va_cwS 2 hts gL_act_L_low rfl rfl rfl (by decide +kernel) ⟨Nat.le_of_ble_eq_true rfl, Nat.le_of_ble_eq_true rfl⟩) (rc_preS hC hP) rfl rfl hl.1 rfl (lv_room (Nat.le_of_ble_eq_true rfl)) dL_act_107 ⟨Nat.zero_le _, Nat.zero_le _⟩)) (fun r94 hr94 => ?_)
            subst hr94
            have hl_r94 := lowI_r (x := (x >>> ((zI (14)) &&& 31))) (n := (((sC S : Int)) + 1)) (by omega)
            refine lv_istore (lv' := [(7, .int (zI (lowI (x >>> ((zI (14)) &&& 31)) (((sC S : Int)) + 1)))), (6, .int (zI ((lowI (x >>> ((zI (9)) &&& 31)) (((sC S : Int)) + 1)) - 1))), (5, .int (zI (lowI (x >>> ((zI (9)) &&& 31)) 5))), (4, .int (zI ((lowI (x >>> ((zI (4)) &&& 31)) (((sN S)) + 3)) - 1))), (3, .int (zI ((sN S)))), (2, .int (bI (aOdd x))), (0, .ref (gA g 0)), (1, .int (x))]) hx hb dL_act_110 hl (by decide) rfl (fun ls hl => ?_)
            refine lv_iload_n hx hb dL_act_112 rfl (lv_at hl 7 rfl) ?_
            refine zr_bipush hx hb dL_act_113 (by decide) ?_
            refine vp_callSi (va_Run.run (va_runS (As := [.int (x), .int (zI (16))]) (rest := []) ⟨hx, hb, hml, hown, hts⟩ (kL_low l D k L f x 16 (by omega)) (va_cwS 2 hts gL_act_L_low rfl rfl rfl (by decide +kernel) ⟨Nat.le_of_ble_eq_true rfl, Nat.le_of_ble_eq_true rfl⟩) (rc_preS hC hP) rfl rfl hl.1 rfl (lv_room (Nat.le_of_ble_eq_true rfl)) dL_act_115 ⟨Nat.zero_le _, Nat.zero_le _⟩)) (fun r95 hr95 => ?_)
            subst hr95
            have hl_r95 := lowI_r (x := x) (n := 16) (by omega)
            refine lv_istore (lv' := [(8, .int (zI (lowI x 16))), (7, .int (zI (lowI (x >>> ((zI (14)) &&& 31)) (((sC S : Int)) + 1)))), (6, .int (zI ((lowI (x >>> ((zI (9)) &&& 31)) (((sC S : Int)) + 1)) - 1))), (5, .int (zI (lowI (x >>> ((zI (9)) &&& 31)) 5))), (4, .int (zI ((lowI (x >>> ((zI (4)) &&& 31)) (((sN S)) + 3)) - 1))), (3, .int (zI ((sN S)))), (2, .int (bI (aOdd x))), (0, .ref (gA g 0)), (1, .int (x))]) hx hb dL_act_118 hl (by decide) rfl (fun ls hl => ?_)
            have cut_155b : ∀ (_ : Unit), ∀ (H : Heap) (locs : List Loc), va_P D vwCl (va_pl L f) H → va_D A (va_pl L f) → va_S A s.heap H locs → ∀ (ls : Array Slot), lv_has ls 9 [(0, .ref (gA g 0)), (1, .int (x)), (2, .int (bI (aOdd x))), (3, .int (zI ((sN S)))), (4, .int (zI ((lowI (x >>> ((zI (4)) &&& 31)) (((sN S)) + 3)) - 1))), (5, .int (zI (lowI (x >>> ((zI (9)) &&& 31)) 5))), (6, .int (zI ((lowI (x >>> ((zI (9)) &&& 31)) (((sC S : Int)) + 1)) - 1))), (7, .int (zI (lowI (x >>> ((zI (14)) &&& 31)) (((sC S : Int)) + 1)))), (8, .int (zI (lowI x 16)))] → W p l e (headSpec wsL_act ({ frames := 10, cells := 7, slots := 82, locals := 213 } : Room)).room s m ([.ref (gA g 0), .int (x)] : List Value).toArray below meth c H locs 0 0 Q (F0 m 155 ls [.int (zI (aWhat x (sN S) (sC S : Int)))]) := by
              intro _  H locs hP hD hS ls hl
              refine lv_istore (lv' := [(8, .int (zI (aWhat x (sN S) (sC S : Int)))), (0, .ref (gA g 0)), (1, .int (x)), (2, .int (bI (aOdd x))), (3, .int (zI ((sN S)))), (4, .int (zI ((lowI (x >>> ((zI (4)) &&& 31)) (((sN S)) + 3)) - 1))), (5, .int (zI (lowI (x >>> ((zI (9)) &&& 31)) 5))), (6, .int (zI ((lowI (x >>> ((zI (9)) &&& 31)) (((sC S : Int)) + 1)) - 1))), (7, .int (zI (lowI (x >>> ((zI (14)) &&& 31)) (((sC S : Int)) + 1))))]) hx hb dL_act_155 hl (by decide) rfl (fun ls hl => ?_)
              have hw8 := aWhat_r x (sN S) (sC S : Int)
              refine lv_iload hx hb dL_act_157 (lv_at hl 0 rfl) ?_
              rcases (show (aWhat x (sN S) (sC S : Int)) = 0 ∨ (aWhat x (sN S) (sC S : Int)) = 1 ∨ (aWhat x (sN S) (sC S : Int)) = 2 ∨ (aWhat x (sN S) (sC S : Int)) = 3 ∨ (aWhat x (sN S) (sC S : Int)) = 4 ∨ (aWhat x (sN S) (sC S : Int)) = 5 ∨ (aWhat x (sN S) (sC S : Int)) = 6 ∨ (aWhat x (sN S) (sC S : Int)) = 7 ∨ (aWhat x (sN S) (sC S : Int)) = 8 ∨ (aWhat x (sN S) (sC S : Int)) = 9 ∨ (aWhat x (sN S) (sC S : Int)) = 10 ∨ (aWhat x (sN S) (sC S : Int)) = 11 ∨ (aWhat x (sN S) (sC S : Int)) = 12 ∨ (aWhat x (sN S) (sC S : Int)) = 13 ∨ (aWhat x (sN S) (sC S : Int)) = 14 ∨ (aWhat x (sN S) (sC S : Int)) = 15 ∨ (aWhat x (sN S) (sC S : Int)) = 16 ∨ (aWhat x (sN S) (sC S : Int) < 0 ∨ 16 < aWhat x (sN S) (sC S : Int)) by omega) with q96 | q96 | q96 | q96 | q96 | q96 | q96 | q96 | q96 | q96 | q96 | q96 | q96 | q96 | q96 | q96 | q96 | q96
              · refine lv_tableIn (off := 81) (tgt := 240) hx hb dL_act_159 (by rw [zI_toInt (by omega), q96]; decide) (by rw [zI_toInt (by omega), q96]; decide) (by rw [zI_toInt (by omega), q96]; rfl) (by decide) ?_
                refine lv_aload_n hx hb dL_act_240 rfl (lv_at hl 1 rfl) ?_
                refine lv_iload hx hb dL_act_241 (lv_at hl 5 rfl) ?_
                refine lv_iload_n hx hb dL_act_243 rfl (lv_at hl 2 rfl) ?_
                refine zr_bipush hx hb dL_act_244 (by decide) ?_
                refine lv_ishr hx hb dL_act_246 ?_
                refine lv_iload_n hx hb dL_act_247 rfl (lv_at hl 3 rfl) ?_
                refine zr_ifb_eq (tgt := 256) hx hb dL_act_248 (by decide) (fun c97 => ?_) (fun c97 => ?_)
                · exact absurd c97 (by rw [c2]; decide)
                · refine zr_bipush hx hb dL_act_251 (by decide) ?_
                  refine lv_goto (tgt := 257) hx hb dL_act_253 (by decide) ?_
                  refine vp_callSi (va_Run.run (va_runS (As := [.int (x >>> ((zI (9)) &&& 31)), .int (zI (8))]) (rest := [.int (zI ((lowI (x >>> ((zI (4)) &&& 31)) (((sN S)) + 3)) - 1)), .ref (gA g 0)]) ⟨hx, hb, hml, hown, hts⟩ (kL_low l D k L f (x >>> ((zI (9)) &&& 31)) 8 (by omega)) (va_cwS 2 hts gL_act_L_low rfl rfl rfl (by decide +kernel) ⟨Nat.le_of_ble_eq_true rfl, Nat.le_of_ble_eq_true rfl⟩) (rc_preS hC hP) rfl rfl hl.1 rfl (lv_room (Nat.le_of_ble_eq_true rfl)) dL_act_257 ⟨Nat.zero_le _, Nat.zero_le _⟩)) (fun r98 hr98 => ?_)
                  subst hr98
                  have hl_r98 := lowI_r (x := (x >>> ((zI (9)) &&& 31))) (n := 8) (by omega)
                  refine pc_calli (vx_runSW (hh := [(0, 6, 7, 14), (0, 6, 11, 17), (0, 6, 15, 19)]) (As := [.ref (gA g 0), .int (zI ((lowI (x >>> ((zI (4)) &&& 31)) (((sN S)) + 3)) - 1)), .int (zI (lowI (x >>> ((zI (9)) &&& 31)) 8))]) (rest := []) ⟨hx, hb, hml, hown, hts⟩ (kL_insert l D k L f g S hR hO ((lowI (x >>> ((zI (4)) &&& 31)) (((sN S)) + 3)) - 1) (by omega) (lowI (x >>> ((zI (9)) &&& 31)) 8) (by omega) hlt n0 _) (vx_cwSW 3 hts gL_act_L_insert rfl rfl rfl (by decide +kernel) ⟨Nat.le_of_ble_eq_true rfl, Nat.le_of_ble_eq_true rfl⟩) (xc_preS hC hX hP (Nat.le_trans hn9 hS.1) hD hS hAn) rfl rfl hl.1 rfl (lv_room (Nat.le_of_ble_eq_true rfl)) dL_act_260 ⟨Nat.le_of_ble_eq_true rfl, Nat.le_of_ble_eq_true rfl⟩) hD hS hA (fun r99 ur99 H locs hr99 hP hD hS hzr99 => ?_)
                  rw [hQ]
                  exact pc_iret hx hb hrt hP (by rw [← hAd]; exact hD) (by rw [← hAd]; exact hS) (wQ.mono hr99 (fun _ _ _ h9 => as_ins c2 (by omega) h9)) dL_act_263 hlocks
              · refine lv_tableIn (off := 81) (tgt := 240) hx hb dL_act_159 (by rw [zI_toInt (by omega), q96]; decide) (by rw [zI_toInt (by omega), q96]; decide) (by rw [zI_toInt (by omega), q96]; rfl) (by decide) ?_
                refine lv_aload_n hx hb dL_act_240 rfl (lv_at hl 1 rfl) ?_
                refine lv_iload hx hb dL_act_241 (lv_at hl 5 rfl) ?_
                refine lv_iload_n hx hb dL_act_243 rfl (lv_at hl 2 rfl) ?_
                refine zr_bipush hx hb dL_act_244 (by decide) ?_
                refine lv_ishr hx hb dL_act_246 ?_
                refine lv_iload_n hx hb dL_act_247 rfl (lv_at hl 3 rfl) ?_
                refine zr_ifb_eq (tgt := 256) hx hb dL_act_248 (by decide) (fun c100 => ?_) (fun c100 => ?_)
                · exact absurd c100 (by rw [c2]; decide)
                · refine zr_bipush hx hb dL_act_251 (by decide) ?_
                  refine lv_goto (tgt := 257) hx hb dL_act_253 (by decide) ?_
                  refine vp_callSi (va_Run.run (va_runS (As := [.int (x >>> ((zI (9)) &&& 31)), .int (zI (8))]) (rest := [.int (zI ((lowI (x >>> ((zI (4)) &&& 31)) (((sN S)) + 3)) - 1)), .ref (gA g 0)]) ⟨hx, hb, hml, hown, hts⟩ (kL_low l D k L f (x >>> ((zI (9)) &&& 31)) 8 (by omega)) (va_cwS 2 hts gL_act_L_low rfl rfl rfl (by decide +kernel) ⟨Nat.le_of_ble_eq_true rfl, Nat.le_of_ble_eq_true rfl⟩) (rc_preS hC hP) rfl rfl hl.1 rfl (lv_room (Nat.le_of_ble_eq_true rfl)) dL_act_257 ⟨Nat.zero_le _, Nat.zero_le _⟩)) (fun r101 hr101 => ?_)
                  subst hr101
                  have hl_r101 := lowI_r (x := (x >>> ((zI (9)) &&& 31))) (n := 8) (by omega)
                  refine pc_calli (vx_runSW (hh := [(0, 6, 7, 14), (0, 6, 11, 17), (0, 6, 15, 19)]) (As := [.ref (gA g 0), .int (zI ((lowI (x >>> ((zI (4)) &&& 31)) (((sN S)) + 3)) - 1)), .int (zI (lowI (x >>> ((zI (9)) &&& 31)) 8))]) (rest := []) ⟨hx, hb, hml, hown, hts⟩ (kL_insert l D k L f g S hR hO ((lowI (x >>> ((zI (4)) &&& 31)) (((sN S)) + 3)) - 1) (by omega) (lowI (x >>> ((zI (9)) &&& 31)) 8) (by omega) hlt n0 _) (vx_cwSW 3 hts gL_act_L_insert rfl rfl rfl (by decide +kernel) ⟨Nat.le_of_ble_eq_true rfl, Nat.le_of_ble_eq_true rfl⟩) (xc_preS hC hX hP (Nat.le_trans hn9 hS.1) hD hS hAn) rfl rfl hl.1 rfl (lv_room (Nat.le_of_ble_eq_true rfl)) dL_act_260 ⟨Nat.le_of_ble_eq_true rfl, Nat.le_of_ble_eq_true rfl⟩) hD hS hA (fun r102 ur102 H locs hr102 hP hD hS hzr102 => ?_)
                  rw [hQ]
                  exact pc_iret hx hb hrt hP (by rw [← hAd]; exact hD) (by rw [← hAd]; exact hS) (wQ.mono hr102 (fun _ _ _ h9 => as_ins c2 (by omega) h9)) dL_act_263 hlocks
              · refine lv_tableIn (off := 81) (tgt := 240) hx hb dL_act_159 (by rw [zI_toInt (by omega), q96]; decide) (by rw [zI_toInt (by omega), q96]; decide) (by rw [zI_toInt (by omega), q96]; rfl) (by decide) ?_
                refine lv_aload_n hx hb dL_act_240 rfl (lv_at hl 1 rfl) ?_
                refine lv_iload hx hb dL_act_241 (lv_at hl 5 rfl) ?_
                refine lv_iload_n hx hb dL_act_243 rfl (lv_at hl 2 rfl) ?_
                refine zr_bipush hx hb dL_act_244 (by decide) ?_
                refine lv_ishr hx hb dL_act_246 ?_
                refine lv_iload_n hx hb dL_act_247 rfl (lv_at hl 3 rfl) ?_
                refine zr_ifb_eq (tgt := 256) hx hb dL_act_248 (by decide) (fun c103 => ?_) (fun c103 => ?_)
                · exact absurd c103 (by rw [c2]; decide)
                · refine zr_bipush hx hb dL_act_251 (by decide) ?_
                  refine lv_goto (tgt := 257) hx hb dL_act_253 (by decide) ?_
                  refine vp_callSi (va_Run.run (va_runS (As := [.int (x >>> ((zI (9)) &&& 31)), .int (zI (8))]) (rest := [.int (zI ((lowI (x >>> ((zI (4)) &&& 31)) (((sN S)) + 3)) - 1)), .ref (gA g 0)]) ⟨hx, hb, hml, hown, hts⟩ (kL_low l D k L f (x >>> ((zI (9)) &&& 31)) 8 (by omega)) (va_cwS 2 hts gL_act_L_low rfl rfl rfl (by decide +kernel) ⟨Nat.le_of_ble_eq_true rfl, Nat.le_of_ble_eq_true rfl⟩) (rc_preS hC hP) rfl rfl hl.1 rfl (lv_room (Nat.le_of_ble_eq_true rfl)) dL_act_257 ⟨Nat.zero_le _, Nat.zero_le _⟩)) (fun r104 hr104 => ?_)
                  subst hr104
                  have hl_r104 := lowI_r (x := (x >>> ((zI (9)) &&& 31))) (n := 8) (by omega)
                  refine pc_calli (vx_runSW (hh := [(0, 6, 7, 14), (0, 6, 11, 17), (0, 6, 15, 19)]) (As := [.ref (gA g 0), .int (zI ((lowI (x >>> ((zI (4)) &&& 31)) (((sN S)) + 3)) - 1)), .int (zI (lowI (x >>> ((zI (9)) &&& 31)) 8))]) (rest := []) ⟨hx, hb, hml, hown, hts⟩ (kL_insert l D k L f g S hR hO ((lowI (x >>> ((zI (4)) &&& 31)) (((sN S)) + 3)) - 1) (by omega) (lowI (x >>> ((zI (9)) &&& 31)) 8) (by omega) hlt n0 _) (vx_cwSW 3 hts gL_act_L_insert rfl rfl rfl (by decide +kernel) ⟨Nat.le_of_ble_eq_true rfl, Nat.le_of_ble_eq_true rfl⟩) (xc_preS hC hX hP (Nat.le_trans hn9 hS.1) hD hS hAn) rfl rfl hl.1 rfl (lv_room (Nat.le_of_ble_eq_true rfl)) dL_act_260 ⟨Nat.le_of_ble_eq_true rfl, Nat.le_of_ble_eq_true rfl⟩) hD hS hA (fun r105 ur105 H locs hr105 hP hD hS hzr105 => ?_)
                  rw [hQ]
                  exact pc_iret hx hb hrt hP (by rw [← hAd]; exact hD) (by rw [← hAd]; exact hS) (wQ.mono hr105 (fun _ _ _ h9 => as_ins c2 (by omega) h9)) dL_act_263 hlocks
              · refine lv_tableIn (off := 81) (tgt := 240) hx hb dL_act_159 (by rw [zI_toInt (by omega), q96]; decide) (by rw [zI_toInt (by omega), q96]; decide) (by rw [zI_toInt (by omega), q96]; rfl) (by decide) ?_
                refine lv_aload_n hx hb dL_act_240 rfl (lv_at hl 1 rfl) ?_
                refine lv_iload hx hb dL_act_241 (lv_at hl 5 rfl) ?_
                refine lv_iload_n hx hb dL_act_243 rfl (lv_at hl 2 rfl) ?_
                refine zr_bipush hx hb dL_act_244 (by decide) ?_
                refine lv_ishr hx hb dL_act_246 ?_
                refine lv_iload_n hx hb dL_act_247 rfl (lv_at hl 3 rfl) ?_
                refine zr_ifb_eq (tgt := 256) hx hb dL_act_248 (by decide) (fun c106 => ?_) (fun c106 => ?_)
                · exact absurd c106 (by rw [c2]; decide)
                · refine zr_bipush hx hb dL_act_251 (by decide) ?_
                  refine lv_goto (tgt := 257) hx hb dL_act_253 (by decide) ?_
                  refine vp_callSi (va_Run.run (va_runS (As := [.int (x >>> ((zI (9)) &&& 31)), .int (zI (8))]) (rest := [.int (zI ((lowI (x >>> ((zI (4)) &&& 31)) (((sN S)) + 3)) - 1)), .ref (gA g 0)]) ⟨hx, hb, hml, hown, hts⟩ (kL_low l D k L f (x >>> ((zI (9)) &&& 31)) 8 (by omega)) (va_cwS 2 hts gL_act_L_low rfl rfl rfl (by decide +kernel) ⟨Nat.le_of_ble_eq_true rfl, Nat.le_of_ble_eq_true rfl⟩) (rc_preS hC hP) rfl rfl hl.1 rfl (lv_room (Nat.le_of_ble_eq_true rfl)) dL_act_257 ⟨Nat.zero_le _, Nat.zero_le _⟩)) (fun r107 hr107 => ?_)
                  subst hr107
                  have hl_r107 := lowI_r (x := (x >>> ((zI (9)) &&& 31))) (n := 8) (by omega)
                  refine pc_calli (vx_runSW (hh := [(0, 6, 7, 14), (0, 6, 11, 17), (0, 6, 15, 19)]) (As := [.ref (gA g 0), .int (zI ((lowI (x >>> ((zI (4)) &&& 31)) (((sN S)) + 3)) - 1)), .int (zI (lowI (x >>> ((zI (9)) &&& 31)) 8))]) (rest := []) ⟨hx, hb, hml, hown, hts⟩ (kL_insert l D k L f g S hR hO ((lowI (x >>> ((zI (4)) &&& 31)) (((sN S)) + 3)) - 1) (by omega) (lowI (x >>> ((zI (9)) &&& 31)) 8) (by omega) hlt n0 _) (vx_cwSW 3 hts gL_act_L_insert rfl rfl rfl (by decide +kernel) ⟨Nat.le_of_ble_eq_true rfl, Nat.le_of_ble_eq_true rfl⟩) (xc_preS hC hX hP (Nat.le_trans hn9 hS.1) hD hS hAn) rfl rfl hl.1 rfl (lv_room (Nat.le_of_ble_eq_true rfl)) dL_act_260 ⟨Nat.le_of_ble_eq_true rfl, Nat.le_of_ble_eq_true rfl⟩) hD hS hA (fun r108 ur108 H locs hr108 hP hD hS hzr108 => ?_)
                  rw [hQ]
                  exact pc_iret hx hb hrt hP (by rw [← hAd]; exact hD) (by rw [← hAd]; exact hS) (wQ.mono hr108 (fun _ _ _ h9 => as_ins c2 (by omega) h9)) dL_act_263 hlocks
              · refine lv_tableIn (off := 105) (tgt := 264) hx hb dL_act_159 (by rw [zI_toInt (by omega), q96]; decide) (by rw [zI_toInt (by omega), q96]; decide) (by rw [zI_toInt (by omega), q96]; rfl) (by decide) ?_
                refine lv_iload_n hx hb dL_act_264 rfl (lv_at hl 2 rfl) ?_
                refine zr_bipush hx hb dL_act_265 (by decide) ?_
                refine lv_ishr hx hb dL_act_267 ?_
                refine zr_const hx hb dL_act_268 ?_
                refine vp_callSi (va_Run.run (va_runS (As := [.int (x >>> ((zI (14)) &&& 31)), .int (zI (2))]) (rest := []) ⟨hx, hb, hml, hown, hts⟩ (kL_low l D k L f (x >>> ((zI (14)) &&& 31)) 2 (by omega)) (va_cwS 2 hts gL_act_L_low rfl rfl rfl (by decide +kernel) ⟨Nat.le_of_ble_eq_true rfl, Nat.le_of_ble_eq_true rfl⟩) (rc_preS hC hP) rfl rfl hl.1 rfl (lv_room (Nat.le_of_ble_eq_true rfl)) dL_act_269 ⟨Nat.zero_le _, Nat.zero_le _⟩)) (fun r109 hr109 => ?_)
                subst hr109
                have hl_r109 := lowI_r (x := (x >>> ((zI (14)) &&& 31))) (n := 2) (by omega)
                refine zr_if_ne (tgt := 284) hx hb dL_act_272 (by decide) (by omega) (fun c110 => ?_) (fun c110 => ?_)
                · refine lv_aload_n hx hb dL_act_284 rfl (lv_at hl 1 rfl) ?_
                  refine lv_iload hx hb dL_act_285 (lv_at hl 5 rfl) ?_
                  refine lv_iload_n hx hb dL_act_287 rfl (lv_at hl 2 rfl) ?_
                  refine zr_bipush hx hb dL_act_288 (by decide) ?_
                  refine lv_ishr hx hb dL_act_290 ?_
                  refine zr_const hx hb dL_act_291 ?_
                  refine vp_callSi (va_Run.run (va_runS (As := [.int (x >>> ((zI (9)) &&& 31)), .int (zI (3))]) (rest := [.int (zI ((lowI (x >>> ((zI (4)) &&& 31)) (((sN S)) + 3)) - 1)), .ref (gA g 0)]) ⟨hx, hb, hml, hown, hts⟩ (kL_low l D k L f (x >>> ((zI (9)) &&& 31)) 3 (by omega)) (va_cwS 2 hts gL_act_L_low rfl rfl rfl (by decide +kernel) ⟨Nat.le_of_ble_eq_true rfl, Nat.le_of_ble_eq_true rfl⟩) (rc_preS hC hP) rfl rfl hl.1 rfl (lv_room (Nat.le_of_ble_eq_true rfl)) dL_act_292 ⟨Nat.zero_le _, Nat.zero_le _⟩)) (fun r111 hr111 => ?_)
                  subst hr111
                  have hl_r111 := lowI_r (x := (x >>> ((zI (9)) &&& 31))) (n := 3) (by omega)
                  refine pc_calli (vx_runSW (hh := [(0, 6, 7, 14), (0, 6, 11, 17), (0, 6, 15, 19)]) (As := [.ref (gA g 0), .int (zI ((lowI (x >>> ((zI (4)) &&& 31)) (((sN S)) + 3)) - 1)), .int (zI (lowI (x >>> ((zI (9)) &&& 31)) 3))]) (rest := []) ⟨hx, hb, hml, hown, hts⟩ (kL_insert l D k L f g S hR hO ((lowI (x >>> ((zI (4)) &&& 31)) (((sN S)) + 3)) - 1) (by omega) (lowI (x >>> ((zI (9)) &&& 31)) 3) (by omega) hlt n0 _) (vx_cwSW 3 hts gL_act_L_insert rfl rfl rfl (by decide +kernel) ⟨Nat.le_of_ble_eq_true rfl, Nat.le_of_ble_eq_true rfl⟩) (xc_preS hC hX hP (Nat.le_trans hn9 hS.1) hD hS hAn) rfl rfl hl.1 rfl (lv_room (Nat.le_of_ble_eq_true rfl)) dL_act_295 ⟨Nat.le_of_ble_eq_true rfl, Nat.le_of_ble_eq_true rfl⟩) hD hS hA (fun r112 ur112 H locs hr112 hP hD hS hzr112 => ?_)
                  rw [hQ]
                  exact pc_iret hx hb hrt hP (by rw [← hAd]; exact hD) (by rw [← hAd]; exact hS) (wQ.mono hr112 (fun _ _ _ h9 => as_ins4 c2 (by omega) (by assumption) h9)) dL_act_298 hlocks
                · refine lv_aload_n hx hb dL_act_275 rfl (lv_at hl 1 rfl) ?_
                  refine lv_iload hx hb dL_act_276 (lv_at hl 5 rfl) ?_
                  refine pc_calli (vx_runSW (hh := [(0, 5, 6, 14)]) (As := [.ref (gA g 0), .int (zI ((lowI (x >>> ((zI (4)) &&& 31)) (((sN S)) + 3)) - 1))]) (rest := []) ⟨hx, hb, hml, hown, hts⟩ (kL_remove l D k L f g S hR hO ((lowI (x >>> ((zI (4)) &&& 31)) (((sN S)) + 3)) - 1) (by omega) hlt n0 _) (vx_cwSW 2 hts gL_act_L_remove rfl rfl rfl (by decide +kernel) ⟨Nat.le_of_ble_eq_true rfl, Nat.le_of_ble_eq_true rfl⟩) (xc_preS hC hX hP (Nat.le_trans hn9 hS.1) hD hS hAn) rfl rfl hl.1 rfl (lv_room (Nat.le_of_ble_eq_true rfl)) dL_act_278 ⟨Nat.le_of_ble_eq_true rfl, Nat.le_of_ble_eq_true rfl⟩) hD hS hA (fun r113 ur113 H locs hr113 hP hD hS hzr113 => ?_)
                  refine lv_goto (tgt := 298) hx hb dL_act_281 (by decide) ?_
                  rw [hQ]
                  exact pc_iret hx hb hrt hP (by rw [← hAd]; exact hD) (by rw [← hAd]; exact hS) (wQ.mono hr113 (fun _ _ _ h9 => as_rem4 c2 (by omega) (by assumption) h9)) dL_act_298 hlocks
              · refine lv_tableIn (off := 140) (tgt := 299) hx hb dL_act_159 (by rw [zI_toInt (by omega), q96]; decide) (by rw [zI_toInt (by omega), q96]; decide) (by rw [zI_toInt (by omega), q96]; rfl) (by decide) ?_
                refine lv_aload_n hx hb dL_act_299 rfl (lv_at hl 1 rfl) ?_
                refine lv_iload hx hb dL_act_300 (lv_at hl 6 rfl) ?_
                refine lv_iload hx hb dL_act_302 (lv_at hl 5 rfl) ?_
                refine lv_iload hx hb dL_act_304 (lv_at hl 5 rfl) ?_
                refine lv_iload_n hx hb dL_act_306 rfl (lv_at hl 2 rfl) ?_
                refine zr_bipush hx hb dL_act_307 (by decide) ?_
                refine lv_ishr hx hb dL_act_309 ?_
                refine lv_iload_n hx hb dL_act_310 rfl (lv_at hl 3 rfl) ?_
                refine zr_ifb_eq (tgt := 319) hx hb dL_act_311 (by decide) (fun c114 => ?_) (fun c114 => ?_)
                · exact absurd c114 (by rw [c2]; decide)
                · refine zr_bipush hx hb dL_act_314 (by decide) ?_
                  refine lv_goto (tgt := 320) hx hb dL_act_316 (by decide) ?_
                  refine vp_callSi (va_Run.run (va_runS (As := [.int (x >>> ((zI (12)) &&& 31)), .int (zI (9))]) (rest := [.int (zI ((lowI (x >>> ((zI (4)) &&& 31)) (((sN S)) + 3)) - 1)), .int (zI ((lowI (x >>> ((zI (4)) &&& 31)) (((sN S)) + 3)) - 1)), .int (zI (lowI (x >>> ((zI (9)) &&& 31)) 5)), .ref (gA g 0)]) ⟨hx, hb, hml, hown, hts⟩ (kL_low l D k L f (x >>> ((zI (12)) &&& 31)) 9 (by omega)) (va_cwS 2 hts gL_act_L_low rfl rfl rfl (by decide +kernel) ⟨Nat.le_of_ble_eq_true rfl, Nat.le_of_ble_eq_true rfl⟩) (rc_preS hC hP) rfl rfl hl.1 rfl (lv_room (Nat.le_of_ble_eq_true rfl)) dL_act_320 ⟨Nat.zero_le _, Nat.zero_le _⟩)) (fun r115 hr115 => ?_)
                  subst hr115
                  have hl_r115 := lowI_r (x := (x >>> ((zI (12)) &&& 31))) (n := 9) (by omega)
                  refine zr_add hx hb dL_act_323 ?_
                  refine lv_iload_n hx hb dL_act_324 rfl (lv_at hl 3 rfl) ?_
                  refine zr_ifb_eq (tgt := 332) hx hb dL_act_325 (by decide) (fun c116 => ?_) (fun c116 => ?_)
                  · exact absurd c116 (by rw [c2]; decide)
                  · refine zr_const hx hb dL_act_328 ?_
                    refine lv_goto (tgt := 333) hx hb dL_act_329 (by decide) ?_
                    refine zr_add hx hb dL_act_333 ?_
                    refine pc_calli (vx_runSW (hh := [(0, 15, 16, 14), (0, 15, 21, 17)]) (As := [.ref (gA g 0), .int (zI (lowI (x >>> ((zI (9)) &&& 31)) 5)), .int (zI ((lowI (x >>> ((zI (4)) &&& 31)) (((sN S)) + 3)) - 1)), .int (zI ((((lowI (x >>> ((zI (4)) &&& 31)) (((sN S)) + 3)) - 1) + (lowI (x >>> ((zI (12)) &&& 31)) 9)) + 0))]) (rest := []) ⟨hx, hb, hml, hown, hts⟩ (kL_mark l D k L f g S hR hO (lowI (x >>> ((zI (9)) &&& 31)) 5) (by omega) ((lowI (x >>> ((zI (4)) &&& 31)) (((sN S)) + 3)) - 1) (by omega) ((((lowI (x >>> ((zI (4)) &&& 31)) (((sN S)) + 3)) - 1) + (lowI (x >>> ((zI (12)) &&& 31)) 9)) + 0) (by omega) hlt n0 _) (vx_cwSW 4 hts gL_act_L_mark rfl rfl rfl (by decide +kernel) ⟨Nat.le_of_ble_eq_true rfl, Nat.le_of_ble_eq_true rfl⟩) (xc_preS hC hX hP (Nat.le_trans hn9 hS.1) hD hS hAn) rfl rfl hl.1 rfl (lv_room (Nat.le_of_ble_eq_true rfl)) dL_act_334 ⟨Nat.le_of_ble_eq_true rfl, Nat.le_of_ble_eq_true rfl⟩) hD hS hA (fun r117 ur117 H locs hr117 hP hD hS hzr117 => ?_)
                    rw [hQ]
                    exact pc_iret hx hb hrt hP (by rw [← hAd]; exact hD) (by rw [← hAd]; exact hS) (wQ.mono hr117 (fun _ _ _ h9 => as_mark c2 (by omega) h9)) dL_act_337 hlocks
              · refine lv_tableIn (off := 140) (tgt := 299) hx hb dL_act_159 (by rw [zI_toInt (by omega), q96]; decide) (by rw [zI_toInt (by omega), q96]; decide) (by rw [zI_toInt (by omega), q96]; rfl) (by decide) ?_
                refine lv_aload_n hx hb dL_act_299 rfl (lv_at hl 1 rfl) ?_
                refine lv_iload hx hb dL_act_300 (lv_at hl 6 rfl) ?_
                refine lv_iload hx hb dL_act_302 (lv_at hl 5 rfl) ?_
                refine lv_iload hx hb dL_act_304 (lv_at hl 5 rfl) ?_
                refine lv_iload_n hx hb dL_act_306 rfl (lv_at hl 2 rfl) ?_
                refine zr_bipush hx hb dL_act_307 (by decide) ?_
                refine lv_ishr hx hb dL_act_309 ?_
                refine lv_iload_n hx hb dL_act_310 rfl (lv_at hl 3 rfl) ?_
                refine zr_ifb_eq (tgt := 319) hx hb dL_act_311 (by decide) (fun c118 => ?_) (fun c118 => ?_)
                · exact absurd c118 (by rw [c2]; decide)
                · refine zr_bipush hx hb dL_act_314 (by decide) ?_
                  refine lv_goto (tgt := 320) hx hb dL_act_316 (by decide) ?_
                  refine vp_callSi (va_Run.run (va_runS (As := [.int (x >>> ((zI (12)) &&& 31)), .int (zI (9))]) (rest := [.int (zI ((lowI (x >>> ((zI (4)) &&& 31)) (((sN S)) + 3)) - 1)), .int (zI ((lowI (x >>> ((zI (4)) &&& 31)) (((sN S)) + 3)) - 1)), .int (zI (lowI (x >>> ((zI (9)) &&& 31)) 5)), .ref (gA g 0)]) ⟨hx, hb, hml, hown, hts⟩ (kL_low l D k L f (x >>> ((zI (12)) &&& 31)) 9 (by omega)) (va_cwS 2 hts gL_act_L_low rfl rfl rfl (by decide +kernel) ⟨Nat.le_of_ble_eq_true rfl, Nat.le_of_ble_eq_true rfl⟩) (rc_preS hC hP) rfl rfl hl.1 rfl (lv_room (Nat.le_of_ble_eq_true rfl)) dL_act_320 ⟨Nat.zero_le _, Nat.zero_le _⟩)) (fun r119 hr119 => ?_)
                  subst hr119
                  have hl_r119 := lowI_r (x := (x >>> ((zI (12)) &&& 31))) (n := 9) (by omega)
                  refine zr_add hx hb dL_act_323 ?_
                  refine lv_iload_n hx hb dL_act_324 rfl (lv_at hl 3 rfl) ?_
                  refine zr_ifb_eq (tgt := 332) hx hb dL_act_325 (by decide) (fun c120 => ?_) (fun c120 => ?_)
                  · exact absurd c120 (by rw [c2]; decide)
                  · refine zr_const hx hb dL_act_328 ?_
                    refine lv_goto (tgt := 333) hx hb dL_act_329 (by decide) ?_
                    refine zr_add hx hb dL_act_333 ?_
                    refine pc_calli (vx_runSW (hh := [(0, 15, 16, 14), (0, 15, 21, 17)]) (As := [.ref (gA g 0), .int (zI (lowI (x >>> ((zI (9)) &&& 31)) 5)), .int (zI ((lowI (x >>> ((zI (4)) &&& 31)) (((sN S)) + 3)) - 1)), .int (zI ((((lowI (x >>> ((zI (4)) &&& 31)) (((sN S)) + 3)) - 1) + (lowI (x >>> ((zI (12)) &&& 31)) 9)) + 0))]) (rest := []) ⟨hx, hb, hml, hown, hts⟩ (kL_mark l D k L f g S hR hO (lowI (x >>> ((zI (9)) &&& 31)) 5) (by omega) ((lowI (x >>> ((zI (4)) &&& 31)) (((sN S)) + 3)) - 1) (by omega) ((((lowI (x >>> ((zI (4)) &&& 31)) (((sN S)) + 3)) - 1) + (lowI (x >>> ((zI (12)) &&& 31)) 9)) + 0) (by omega) hlt n0 _) (vx_cwSW 4 hts gL_act_L_mark rfl rfl rfl (by decide +kernel) ⟨Nat.le_of_ble_eq_true rfl, Nat.le_of_ble_eq_true rfl⟩) (xc_preS hC hX hP (Nat.le_trans hn9 hS.1) hD hS hAn) rfl rfl hl.1 rfl (lv_room (Nat.le_of_ble_eq_true rfl)) dL_act_334 ⟨Nat.le_of_ble_eq_true rfl, Nat.le_of_ble_eq_true rfl⟩) hD hS hA (fun r121 ur121 H locs hr121 hP hD hS hzr121 => ?_)
                    rw [hQ]
                    exact pc_iret hx hb hrt hP (by rw [← hAd]; exact hD) (by rw [← hAd]; exact hS) (wQ.mono hr121 (fun _ _ _ h9 => as_mark c2 (by omega) h9)) dL_act_337 hlocks
              · refine lv_tableIn (off := 140) (tgt := 299) hx hb dL_act_159 (by rw [zI_toInt (by omega), q96]; decide) (by rw [zI_toInt (by omega), q96]; decide) (by rw [zI_toInt (by omega), q96]; rfl) (by decide) ?_
                refine lv_aload_n hx hb dL_act_299 rfl (lv_at hl 1 rfl) ?_
                refine lv_iload hx hb dL_act_300 (lv_at hl 6 rfl) ?_
                refine lv_iload hx hb dL_act_302 (lv_at hl 5 rfl) ?_
                refine lv_iload hx hb dL_act_304 (lv_at hl 5 rfl) ?_
                refine lv_iload_n hx hb dL_act_306 rfl (lv_at hl 2 rfl) ?_
                refine zr_bipush hx hb dL_act_307 (by decide) ?_
                refine lv_ishr hx hb dL_act_309 ?_
                refine lv_iload_n hx hb dL_act_310 rfl (lv_at hl 3 rfl) ?_
                refine zr_ifb_eq (tgt := 319) hx hb dL_act_311 (by decide) (fun c122 => ?_) (fun c122 => ?_)
                · exact absurd c122 (by rw [c2]; decide)
                · refine zr_bipush hx hb dL_act_314 (by decide) ?_
                  refine lv_goto (tgt := 320) hx hb dL_act_316 (by decide) ?_
                  refine vp_callSi (va_Run.run (va_runS (As := [.int (x >>> ((zI (12)) &&& 31)), .int (zI (9))]) (rest := [.int (zI ((lowI (x >>> ((zI (4)) &&& 31)) (((sN S)) + 3)) - 1)), .int (zI ((lowI (x >>> ((zI (4)) &&& 31)) (((sN S)) + 3)) - 1)), .int (zI (lowI (x >>> ((zI (9)) &&& 31)) 5)), .ref (gA g 0)]) ⟨hx, hb, hml, hown, hts⟩ (kL_low l D k L f (x >>> ((zI (12)) &&& 31)) 9 (by omega)) (va_cwS 2 hts gL_act_L_low rfl rfl rfl (by decide +kernel) ⟨Nat.le_of_ble_eq_true rfl, Nat.le_of_ble_eq_true rfl⟩) (rc_preS hC hP) rfl rfl hl.1 rfl (lv_room (Nat.le_of_ble_eq_true rfl)) dL_act_320 ⟨Nat.zero_le _, Nat.zero_le _⟩)) (fun r123 hr123 => ?_)
                  subst hr123
                  have hl_r123 := lowI_r (x := (x >>> ((zI (12)) &&& 31))) (n := 9) (by omega)
                  refine zr_add hx hb dL_act_323 ?_
                  refine lv_iload_n hx hb dL_act_324 rfl (lv_at hl 3 rfl) ?_
                  refine zr_ifb_eq (tgt := 332) hx hb dL_act_325 (by decide) (fun c124 => ?_) (fun c124 => ?_)
                  · exact absurd c124 (by rw [c2]; decide)
                  · refine zr_const hx hb dL_act_328 ?_
                    refine lv_goto (tgt := 333) hx hb dL_act_329 (by decide) ?_
                    refine zr_add hx hb dL_act_333 ?_
                    refine pc_calli (vx_runSW (hh := [(0, 15, 16, 14), (0, 15, 21, 17)]) (As := [.ref (gA g 0), .int (zI (lowI (x >>> ((zI (9)) &&& 31)) 5)), .int (zI ((lowI (x >>> ((zI (4)) &&& 31)) (((sN S)) + 3)) - 1)), .int (zI ((((lowI (x >>> ((zI (4)) &&& 31)) (((sN S)) + 3)) - 1) + (lowI (x >>> ((zI (12)) &&& 31)) 9)) + 0))]) (rest := []) ⟨hx, hb, hml, hown, hts⟩ (kL_mark l D k L f g S hR hO (lowI (x >>> ((zI (9)) &&& 31)) 5) (by omega) ((lowI (x >>> ((zI (4)) &&& 31)) (((sN S)) + 3)) - 1) (by omega) ((((lowI (x >>> ((zI (4)) &&& 31)) (((sN S)) + 3)) - 1) + (lowI (x >>> ((zI (12)) &&& 31)) 9)) + 0) (by omega) hlt n0 _) (vx_cwSW 4 hts gL_act_L_mark rfl rfl rfl (by decide +kernel) ⟨Nat.le_of_ble_eq_true rfl, Nat.le_of_ble_eq_true rfl⟩) (xc_preS hC hX hP (Nat.le_trans hn9 hS.1) hD hS hAn) rfl rfl hl.1 rfl (lv_room (Nat.le_of_ble_eq_true rfl)) dL_act_334 ⟨Nat.le_of_ble_eq_true rfl, Nat.le_of_ble_eq_true rfl⟩) hD hS hA (fun r125 ur125 H locs hr125 hP hD hS hzr125 => ?_)
                    rw [hQ]
                    exact pc_iret hx hb hrt hP (by rw [← hAd]; exact hD) (by rw [← hAd]; exact hS) (wQ.mono hr125 (fun _ _ _ h9 => as_mark c2 (by omega) h9)) dL_act_337 hlocks
              · refine lv_tableIn (off := 140) (tgt := 299) hx hb dL_act_159 (by rw [zI_toInt (by omega), q96]; decide) (by rw [zI_toInt (by omega), q96]; decide) (by rw [zI_toInt (by omega), q96]; rfl) (by decide) ?_
                refine lv_aload_n hx hb dL_act_299 rfl (lv_at hl 1 rfl) ?_
                refine lv_iload hx hb dL_act_300 (lv_at hl 6 rfl) ?_
                refine lv_iload hx hb dL_act_302 (lv_at hl 5 rfl) ?_
                refine lv_iload hx hb dL_act_304 (lv_at hl 5 rfl) ?_
                refine lv_iload_n hx hb dL_act_306 rfl (lv_at hl 2 rfl) ?_
                refine zr_bipush hx hb dL_act_307 (by decide) ?_
                refine lv_ishr hx hb dL_act_309 ?_
                refine lv_iload_n hx hb dL_act_310 rfl (lv_at hl 3 rfl) ?_
                refine zr_ifb_eq (tgt := 319) hx hb dL_act_311 (by decide) (fun c126 => ?_) (fun c126 => ?_)
                · exact absurd c126 (by rw [c2]; decide)
                · refine zr_bipush hx hb dL_act_314 (by decide) ?_
                  refine lv_goto (tgt := 320) hx hb dL_act_316 (by decide) ?_
                  refine vp_callSi (va_Run.run (va_runS (As := [.int (x >>> ((zI (12)) &&& 31)), .int (zI (9))]) (rest := [.int (zI ((lowI (x >>> ((zI (4)) &&& 31)) (((sN S)) + 3)) - 1)), .int (zI ((lowI (x >>> ((zI (4)) &&& 31)) (((sN S)) + 3)) - 1)), .int (zI (lowI (x >>> ((zI (9)) &&& 31)) 5)), .ref (gA g 0)]) ⟨hx, hb, hml, hown, hts⟩ (kL_low l D k L f (x >>> ((zI (12)) &&& 31)) 9 (by omega)) (va_cwS 2 hts gL_act_L_low rfl rfl rfl (by decide +kernel) ⟨Nat.le_of_ble_eq_true rfl, Nat.le_of_ble_eq_true rfl⟩) (rc_preS hC hP) rfl rfl hl.1 rfl (lv_room (Nat.le_of_ble_eq_true rfl)) dL_act_320 ⟨Nat.zero_le _, Nat.zero_le _⟩)) (fun r127 hr127 => ?_)
                  subst hr127
                  have hl_r127 := lowI_r (x := (x >>> ((zI (12)) &&& 31))) (n := 9) (by omega)
                  refine zr_add hx hb dL_act_323 ?_
                  refine lv_iload_n hx hb dL_act_324 rfl (lv_at hl 3 rfl) ?_
                  refine zr_ifb_eq (tgt := 332) hx hb dL_act_325 (by decide) (fun c128 => ?_) (fun c128 => ?_)
                  · exact absurd c128 (by rw [c2]; decide)
                  · refine zr_const hx hb dL_act_328 ?_
                    refine lv_goto (tgt := 333) hx hb dL_act_329 (by decide) ?_
                    refine zr_add hx hb dL_act_333 ?_
                    refine pc_calli (vx_runSW (hh := [(0, 15, 16, 14), (0, 15, 21, 17)]) (As := [.ref (gA g 0), .int (zI (lowI (x >>> ((zI (9)) &&& 31)) 5)), .int (zI ((lowI (x >>> ((zI (4)) &&& 31)) (((sN S)) + 3)) - 1)), .int (zI ((((lowI (x >>> ((zI (4)) &&& 31)) (((sN S)) + 3)) - 1) + (lowI (x >>> ((zI (12)) &&& 31)) 9)) + 0))]) (rest := []) ⟨hx, hb, hml, hown, hts⟩ (kL_mark l D k L f g S hR hO (lowI (x >>> ((zI (9)) &&& 31)) 5) (by omega) ((lowI (x >>> ((zI (4)) &&& 31)) (((sN S)) + 3)) - 1) (by omega) ((((lowI (x >>> ((zI (4)) &&& 31)) (((sN S)) + 3)) - 1) + (lowI (x >>> ((zI (12)) &&& 31)) 9)) + 0) (by omega) hlt n0 _) (vx_cwSW 4 hts gL_act_L_mark rfl rfl rfl (by decide +kernel) ⟨Nat.le_of_ble_eq_true rfl, Nat.le_of_ble_eq_true rfl⟩) (xc_preS hC hX hP (Nat.le_trans hn9 hS.1) hD hS hAn) rfl rfl hl.1 rfl (lv_room (Nat.le_of_ble_eq_true rfl)) dL_act_334 ⟨Nat.le_of_ble_eq_true rfl, Nat.le_of_ble_eq_true rfl⟩) hD hS hA (fun r129 ur129 H locs hr129 hP hD hS hzr129 => ?_)
                    rw [hQ]
                    exact pc_iret hx hb hrt hP (by rw [← hAd]; exact hD) (by rw [← hAd]; exact hS) (wQ.mono hr129 (fun _ _ _ h9 => as_mark c2 (by omega) h9)) dL_act_337 hlocks
              · refine lv_tableIn (off := 179) (tgt := 338) hx hb dL_act_159 (by rw [zI_toInt (by omega), q96]; decide) (by rw [zI_toInt (by omega), q96]; decide) (by rw [zI_toInt (by omega), q96]; rfl) (by decide) ?_
                refine lv_aload_n hx hb dL_act_338 rfl (lv_at hl 1 rfl) ?_
                refine lv_iload hx hb dL_act_339 (lv_at hl 6 rfl) ?_
                refine lv_iload_n hx hb dL_act_341 rfl (lv_at hl 2 rfl) ?_
                refine zr_bipush hx hb dL_act_342 (by decide) ?_
                refine lv_ishr hx hb dL_act_344 ?_
                refine zr_const hx hb dL_act_345 ?_
                refine vp_callSi (va_Run.run (va_runS (As := [.int (x >>> ((zI (12)) &&& 31)), .int (zI (5))]) (rest := [.int (zI (lowI (x >>> ((zI (9)) &&& 31)) 5)), .ref (gA g 0)]) ⟨hx, hb, hml, hown, hts⟩ (kL_low l D k L f (x >>> ((zI (12)) &&& 31)) 5 (by omega)) (va_cwS 2 hts gL_act_L_low rfl rfl rfl (by decide +kernel) ⟨Nat.le_of_ble_eq_true rfl, Nat.le_of_ble_eq_true rfl⟩) (rc_preS hC hP) rfl rfl hl.1 rfl (lv_room (Nat.le_of_ble_eq_true rfl)) dL_act_346 ⟨Nat.zero_le _, Nat.zero_le _⟩)) (fun r130 hr130 => ?_)
                subst hr130
                have hl_r130 := lowI_r (x := (x >>> ((zI (12)) &&& 31))) (n := 5) (by omega)
                refine lv_iload_n hx hb dL_act_349 rfl (lv_at hl 3 rfl) ?_
                refine zr_ifb_eq (tgt := 357) hx hb dL_act_350 (by decide) (fun c131 => ?_) (fun c131 => ?_)
                · exact absurd c131 (by rw [c2]; decide)
                · refine zr_const hx hb dL_act_353 ?_
                  refine lv_goto (tgt := 358) hx hb dL_act_354 (by decide) ?_
                  refine zr_sub hx hb dL_act_358 ?_
                  refine pc_calli (vx_runSW (hh := [(0, 6, 7, 14)]) (As := [.ref (gA g 0), .int (zI (lowI (x >>> ((zI (9)) &&& 31)) 5)), .int (zI ((lowI (x >>> ((zI (12)) &&& 31)) 5) - 1))]) (rest := []) ⟨hx, hb, hml, hown, hts⟩ (kL_unmark l D k L f g S hR hO (lowI (x >>> ((zI (9)) &&& 31)) 5) (by omega) ((lowI (x >>> ((zI (12)) &&& 31)) 5) - 1) (by omega) hlt n0 _) (vx_cwSW 3 hts gL_act_L_unmark rfl rfl rfl (by decide +kernel) ⟨Nat.le_of_ble_eq_true rfl, Nat.le_of_ble_eq_true rfl⟩) (xc_preS hC hX hP (Nat.le_trans hn9 hS.1) hD hS hAn) rfl rfl hl.1 rfl (lv_room (Nat.le_of_ble_eq_true rfl)) dL_act_359 ⟨Nat.le_of_ble_eq_true rfl, Nat.le_of_ble_eq_true rfl⟩) hD hS hA (fun r132 ur132 H locs hr132 hP hD hS hzr132 => ?_)
                  rw [hQ]
                  exact pc_iret hx hb hrt hP (by rw [← hAd]; exact hD) (by rw [← hAd]; exact hS) (wQ.mono hr132 (fun _ _ _ h9 => as_un9 c2 (by omega) h9)) dL_act_362 hlocks
              · refine lv_tableIn (off := 204) (tgt := 363) hx hb dL_act_159 (by rw [zI_toInt (by omega), q96]; decide) (by rw [zI_toInt (by omega), q96]; decide) (by rw [zI_toInt (by omega), q96]; rfl) (by decide) ?_
                refine lv_iload_n hx hb dL_act_363 rfl (lv_at hl 2 rfl) ?_
                refine zr_bipush hx hb dL_act_364 (by decide) ?_
                refine lv_ishr hx hb dL_act_366 ?_
                refine zr_const hx hb dL_act_367 ?_
                refine vp_callSi (va_Run.run (va_runS (As := [.int (x >>> ((zI (14)) &&& 31)), .int (zI (2))]) (rest := []) ⟨hx, hb, hml, hown, hts⟩ (kL_low l D k L f (x >>> ((zI (14)) &&& 31)) 2 (by omega)) (va_cwS 2 hts gL_act_L_low rfl rfl rfl (by decide +kernel) ⟨Nat.le_of_ble_eq_true rfl, Nat.le_of_ble_eq_true rfl⟩) (rc_preS hC hP) rfl rfl hl.1 rfl (lv_room (Nat.le_of_ble_eq_true rfl)) dL_act_368 ⟨Nat.zero_le _, Nat.zero_le _⟩)) (fun r133 hr133 => ?_)
                subst hr133
                have hl_r133 := lowI_r (x := (x >>> ((zI (14)) &&& 31))) (n := 2) (by omega)
                refine zr_if_ne (tgt := 398) hx hb dL_act_371 (by decide) (by omega) (fun c134 => ?_) (fun c134 => ?_)
                · refine lv_aload_n hx hb dL_act_398 rfl (lv_at hl 1 rfl) ?_
                  refine lv_iload hx hb dL_act_399 (lv_at hl 6 rfl) ?_
                  refine pc_calli (vx_runSW (hh := [(0, 5, 6, 14), (0, 5, 10, 19)]) (As := [.ref (gA g 0), .int (zI (lowI (x >>> ((zI (9)) &&& 31)) 5))]) (rest := []) ⟨hx, hb, hml, hown, hts⟩ (kL_marked l D k L f g S hR hO (lowI (x >>> ((zI (9)) &&& 31)) 5) (by omega) hlt n0 _) (vx_cwSW 2 hts gL_act_L_marked rfl rfl rfl (by decide +kernel) ⟨Nat.le_of_ble_eq_true rfl, Nat.le_of_ble_eq_true rfl⟩) (xc_preS hC hX hP (Nat.le_trans hn9 hS.1) hD hS hAn) rfl rfl hl.1 rfl (lv_room (Nat.le_of_ble_eq_true rfl)) dL_act_401 ⟨Nat.le_of_ble_eq_true rfl, Nat.le_of_ble_eq_true rfl⟩) hD hS hA (fun r135 ur135 H locs hr135 hP hD hS hzr135 => ?_)
                  rw [hQ]
                  exact pc_iret hx hb hrt hP (by rw [← hAd]; exact hD) (by rw [← hAd]; exact hS) (wQ.mono hr135 (fun _ _ _ h9 => as_mkd c2 (by omega) (by assumption) h9)) dL_act_404 hlocks
                · refine lv_aload_n hx hb dL_act_374 rfl (lv_at hl 1 rfl) ?_
                  refine lv_iload_n hx hb dL_act_375 rfl (lv_at hl 2 rfl) ?_
                  refine zr_bipush hx hb dL_act_376 (by decide) ?_
                  refine lv_ishr hx hb dL_act_378 ?_
                  refine lv_iload_n hx hb dL_act_379 rfl (lv_at hl 3 rfl) ?_
                  refine zr_ifb_eq (tgt := 388) hx hb dL_act_380 (by decide) (fun c136 => ?_) (fun c136 => ?_)
                  · exact absurd c136 (by rw [c2]; decide)
                  · refine zr_bipush hx hb dL_act_383 (by decide) ?_
                    refine lv_goto (tgt := 389) hx hb dL_act_385 (by decide) ?_
                    refine vp_callSi (va_Run.run (va_runS (As := [.int (x >>> ((zI (9)) &&& 31)), .int (zI (7))]) (rest := [.ref (gA g 0)]) ⟨hx, hb, hml, hown, hts⟩ (kL_low l D k L f (x >>> ((zI (9)) &&& 31)) 7 (by omega)) (va_cwS 2 hts gL_act_L_low rfl rfl rfl (by decide +kernel) ⟨Nat.le_of_ble_eq_true rfl, Nat.le_of_ble_eq_true rfl⟩) (rc_preS hC hP) rfl rfl hl.1 rfl (lv_room (Nat.le_of_ble_eq_true rfl)) dL_act_389 ⟨Nat.zero_le _, Nat.zero_le _⟩)) (fun r137 hr137 => ?_)
                    subst hr137
                    have hl_r137 := lowI_r (x := (x >>> ((zI (9)) &&& 31))) (n := 7) (by omega)
                    refine pc_calli (vx_runSW (hh := [(0, 5, 6, 17), (0, 5, 10, 19)]) (As := [.ref (gA g 0), .int (zI (lowI (x >>> ((zI (9)) &&& 31)) 7))]) (rest := []) ⟨hx, hb, hml, hown, hts⟩ (kL_letter l D k L f g S hR hO (lowI (x >>> ((zI (9)) &&& 31)) 7) (by omega) hlt n0 _) (vx_cwSW 2 hts gL_act_L_letter rfl rfl rfl (by decide +kernel) ⟨Nat.le_of_ble_eq_true rfl, Nat.le_of_ble_eq_true rfl⟩) (xc_preS hC hX hP (Nat.le_trans hn9 hS.1) hD hS hAn) rfl rfl hl.1 rfl (lv_room (Nat.le_of_ble_eq_true rfl)) dL_act_392 ⟨Nat.le_of_ble_eq_true rfl, Nat.le_of_ble_eq_true rfl⟩) hD hS hA (fun r138 ur138 H locs hr138 hP hD hS hzr138 => ?_)
                    refine lv_goto (tgt := 404) hx hb dL_act_395 (by decide) ?_
                    rw [hQ]
                    exact pc_iret hx hb hrt hP (by rw [← hAd]; exact hD) (by rw [← hAd]; exact hS) (wQ.mono hr138 (fun _ _ _ h9 => as_let c2 (by omega) (by assumption) h9)) dL_act_404 hlocks
              · refine lv_tableIn (off := 246) (tgt := 405) hx hb dL_act_159 (by rw [zI_toInt (by omega), q96]; decide) (by rw [zI_toInt (by omega), q96]; decide) (by rw [zI_toInt (by omega), q96]; rfl) (by decide) ?_
                refine lv_aload_n hx hb dL_act_405 rfl (lv_at hl 1 rfl) ?_
                refine lv_iload hx hb dL_act_406 (lv_at hl 7 rfl) ?_
                refine lv_iload hx hb dL_act_408 (lv_at hl 8 rfl) ?_
                refine lv_iload_n hx hb dL_act_410 rfl (lv_at hl 3 rfl) ?_
                refine zr_ifb_eq (tgt := 427) hx hb dL_act_411 (by decide) (fun c139 => ?_) (fun c139 => ?_)
                · exact absurd c139 (by rw [c2]; decide)
                · refine lv_iload_n hx hb dL_act_414 rfl (lv_at hl 2 rfl) ?_
                  refine zr_const hx hb dL_act_415 ?_
                  refine lv_ishr hx hb dL_act_416 ?_
                  refine zr_bipush hx hb dL_act_417 (by decide) ?_
                  refine vp_callSi (va_Run.run (va_runS (As := [.int (x >>> ((zI (4)) &&& 31)), .int (zI (27))]) (rest := [.int (zI (lowI (x >>> ((zI (14)) &&& 31)) (((sC S : Int)) + 1))), .int (zI ((lowI (x >>> ((zI (9)) &&& 31)) (((sC S : Int)) + 1)) - 1)), .ref (gA g 0)]) ⟨hx, hb, hml, hown, hts⟩ (kL_low l D k L f (x >>> ((zI (4)) &&& 31)) 27 (by omega)) (va_cwS 2 hts gL_act_L_low rfl rfl rfl (by decide +kernel) ⟨Nat.le_of_ble_eq_true rfl, Nat.le_of_ble_eq_true rfl⟩) (rc_preS hC hP) rfl rfl hl.1 rfl (lv_room (Nat.le_of_ble_eq_true rfl)) dL_act_419 ⟨Nat.zero_le _, Nat.zero_le _⟩)) (fun r140 hr140 => ?_)
                  subst hr140
                  have hl_r140 := lowI_r (x := (x >>> ((zI (4)) &&& 31))) (n := 27) (by omega)
                  refine zr_const hx hb dL_act_422 ?_
                  refine zr_sub hx hb dL_act_423 ?_
                  refine lv_goto (tgt := 435) hx hb dL_act_424 (by decide) ?_
                  refine pc_calli (vx_runSW (hh := [(0, 7, 8, 14), (0, 7, 13, 17), (0, 7, 18, 19)]) (As := [.ref (gA g 0), .int (zI ((lowI (x >>> ((zI (9)) &&& 31)) (((sC S : Int)) + 1)) - 1)), .int (zI (lowI (x >>> ((zI (14)) &&& 31)) (((sC S : Int)) + 1))), .int (zI ((lowI (x >>> ((zI (4)) &&& 31)) 27) - 1))]) (rest := []) ⟨hx, hb, hml, hown, hts⟩ (kL_near l D k L f g S hR hO ((lowI (x >>> ((zI (9)) &&& 31)) (((sC S : Int)) + 1)) - 1) (by omega) (lowI (x >>> ((zI (14)) &&& 31)) (((sC S : Int)) + 1)) (by omega) ((lowI (x >>> ((zI (4)) &&& 31)) 27) - 1) (by omega) hlt n0 _) (vx_cwSW 4 hts gL_act_L_near rfl rfl rfl (by decide +kernel) ⟨Nat.le_of_ble_eq_true rfl, Nat.le_of_ble_eq_true rfl⟩) (xc_preS hC hX hP (Nat.le_trans hn9 hS.1) hD hS hAn) rfl rfl hl.1 rfl (lv_room (Nat.le_of_ble_eq_true rfl)) dL_act_435 ⟨Nat.le_of_ble_eq_true rfl, Nat.le_of_ble_eq_true rfl⟩) hD hS hA (fun r141 ur141 H locs hr141 hP hD hS hzr141 => ?_)
                  rw [hQ]
                  exact pc_iret hx hb hrt hP (by rw [← hAd]; exact hD) (by rw [← hAd]; exact hS) (wQ.mono hr141 (fun _ _ _ h9 => as_near c2 (by omega) h9)) dL_act_438 hlocks
              · refine lv_tableIn (off := 280) (tgt := 439) hx hb dL_act_159 (by rw [zI_toInt (by omega), q96]; decide) (by rw [zI_toInt (by omega), q96]; decide) (by rw [zI_toInt (by omega), q96]; rfl) (by decide) ?_
                refine lv_aload_n hx hb dL_act_439 rfl (lv_at hl 1 rfl) ?_
                refine lv_iload hx hb dL_act_440 (lv_at hl 7 rfl) ?_
                refine lv_iload_n hx hb dL_act_442 rfl (lv_at hl 2 rfl) ?_
                refine zr_bipush hx hb dL_act_443 (by decide) ?_
                refine lv_ishr hx hb dL_act_445 ?_
                refine zr_const hx hb dL_act_446 ?_
                refine vp_callSi (va_Run.run (va_runS (As := [.int (x >>> ((zI (14)) &&& 31)), .int (zI (2))]) (rest := [.int (zI ((lowI (x >>> ((zI (9)) &&& 31)) (((sC S : Int)) + 1)) - 1)), .ref (gA g 0)]) ⟨hx, hb, hml, hown, hts⟩ (kL_low l D k L f (x >>> ((zI (14)) &&& 31)) 2 (by omega)) (va_cwS 2 hts gL_act_L_low rfl rfl rfl (by decide +kernel) ⟨Nat.le_of_ble_eq_true rfl, Nat.le_of_ble_eq_true rfl⟩) (rc_preS hC hP) rfl rfl hl.1 rfl (lv_room (Nat.le_of_ble_eq_true rfl)) dL_act_447 ⟨Nat.zero_le _, Nat.zero_le _⟩)) (fun r142 hr142 => ?_)
                subst hr142
                have hl_r142 := lowI_r (x := (x >>> ((zI (14)) &&& 31))) (n := 2) (by omega)
                refine zr_if_ne (tgt := 457) hx hb dL_act_450 (by decide) (by omega) (fun c143 => ?_) (fun c143 => ?_)
                · refine zr_const hx hb dL_act_457 ?_
                  refine zr_top (y := bI (decide (lowI (sh x 14) 2 = 0))) (by rw [decide_eq_false c143]; decide) ?_
                  refine pc_calli (vx_runSW (hh := [(0, 6, 7, 14), (0, 6, 11, 19)]) (As := [.ref (gA g 0), .int (zI ((lowI (x >>> ((zI (9)) &&& 31)) (((sC S : Int)) + 1)) - 1)), .int (bI (decide (lowI (sh x 14) 2 = 0)))]) (rest := []) ⟨hx, hb, hml, hown, hts⟩ (kL_only l D k L f g S hR hO ((lowI (x >>> ((zI (9)) &&& 31)) (((sC S : Int)) + 1)) - 1) (by omega) (decide (lowI (sh x 14) 2 = 0)) hlt n0 _) (vx_cwSW 3 hts gL_act_L_only rfl rfl rfl (by decide +kernel) ⟨Nat.le_of_ble_eq_true rfl, Nat.le_of_ble_eq_true rfl⟩) (xc_preS hC hX hP (Nat.le_trans hn9 hS.1) hD hS hAn) rfl rfl hl.1 rfl (lv_room (Nat.le_of_ble_eq_true rfl)) dL_act_458 ⟨Nat.le_of_ble_eq_true rfl, Nat.le_of_ble_eq_true rfl⟩) hD hS hA (fun r144 ur144 H locs hr144 hP hD hS hzr144 => ?_)
                  rw [hQ]
                  exact pc_iret hx hb hrt hP (by rw [← hAd]; exact hD) (by rw [← hAd]; exact hS) (wQ.mono hr144 (fun _ _ _ h9 => as_only c2 (by omega) h9)) dL_act_461 hlocks
                · refine zr_const hx hb dL_act_453 ?_
                  refine lv_goto (tgt := 458) hx hb dL_act_454 (by decide) ?_
                  refine zr_top (y := bI (decide (lowI (sh x 14) 2 = 0))) (by rw [decide_eq_true c143]; decide) ?_
                  refine pc_calli (vx_runSW (hh := [(0, 6, 7, 14), (0, 6, 11, 19)]) (As := [.ref (gA g 0), .int (zI ((lowI (x >>> ((zI (9)) &&& 31)) (((sC S : Int)) + 1)) - 1)), .int (bI (decide (lowI (sh x 14) 2 = 0)))]) (rest := []) ⟨hx, hb, hml, hown, hts⟩ (kL_only l D k L f g S hR hO ((lowI (x >>> ((zI (9)) &&& 31)) (((sC S : Int)) + 1)) - 1) (by omega) (decide (lowI (sh x 14) 2 = 0)) hlt n0 _) (vx_cwSW 3 hts gL_act_L_only rfl rfl rfl (by decide +kernel) ⟨Nat.le_of_ble_eq_true rfl, Nat.le_of_ble_eq_true rfl⟩) (xc_preS hC hX hP (Nat.le_trans hn9 hS.1) hD hS hAn) rfl rfl hl.1 rfl (lv_room (Nat.le_of_ble_eq_true rfl)) dL_act_458 ⟨Nat.le_of_ble_eq_true rfl, Nat.le_of_ble_eq_true rfl⟩) hD hS hA (fun r145 ur145 H locs hr145 hP hD hS hzr145 => ?_)
                  rw [hQ]
                  exact pc_iret hx hb hrt hP (by rw [← hAd]; exact hD) (by rw [← hAd]; exact hS) (wQ.mono hr145 (fun _ _ _ h9 => as_only c2 (by omega) h9)) dL_act_461 hlocks
              · refine lv_tableIn (off := 348) (tgt := 507) hx hb dL_act_159 (by rw [zI_toInt (by omega), q96]; decide) (by rw [zI_toInt (by omega), q96]; decide) (by rw [zI_toInt (by omega), q96]; rfl) (by decide) ?_
                refine lv_aload_n hx hb dL_act_507 rfl (lv_at hl 1 rfl) ?_
                refine lv_iload_n hx hb dL_act_508 rfl (lv_at hl 3 rfl) ?_
                refine zr_ifb_eq (tgt := 525) hx hb dL_act_509 (by decide) (fun c146 => ?_) (fun c146 => ?_)
                · exact absurd c146 (by rw [c2]; decide)
                · refine lv_iload_n hx hb dL_act_512 rfl (lv_at hl 2 rfl) ?_
                  refine zr_const hx hb dL_act_513 ?_
                  refine lv_ishr hx hb dL_act_514 ?_
                  refine zr_bipush hx hb dL_act_515 (by decide) ?_
                  refine vp_callSi (va_Run.run (va_runS (As := [.int (x >>> ((zI (4)) &&& 31)), .int (zI (13))]) (rest := [.ref (gA g 0)]) ⟨hx, hb, hml, hown, hts⟩ (kL_low l D k L f (x >>> ((zI (4)) &&& 31)) 13 (by omega)) (va_cwS 2 hts gL_act_L_low rfl rfl rfl (by decide +kernel) ⟨Nat.le_of_ble_eq_true rfl, Nat.le_of_ble_eq_true rfl⟩) (rc_preS hC hP) rfl rfl hl.1 rfl (lv_room (Nat.le_of_ble_eq_true rfl)) dL_act_517 ⟨Nat.zero_le _, Nat.zero_le _⟩)) (fun r147 hr147 => ?_)
                  subst hr147
                  have hl_r147 := lowI_r (x := (x >>> ((zI (4)) &&& 31))) (n := 13) (by omega)
                  refine zr_const hx hb dL_act_520 ?_
                  refine zr_sub hx hb dL_act_521 ?_
                  refine lv_goto (tgt := 533) hx hb dL_act_522 (by decide) ?_
                  refine lv_iload hx hb dL_act_533 (lv_at hl 7 rfl) ?_
                  refine lv_iload hx hb dL_act_535 (lv_at hl 8 rfl) ?_
                  refine pc_calli (vx_runSW (hh := [(0, 7, 8, 14), (0, 7, 13, 17), (0, 7, 18, 19)]) (As := [.ref (gA g 0), .int (zI ((lowI (x >>> ((zI (4)) &&& 31)) 13) - 1)), .int (zI ((lowI (x >>> ((zI (9)) &&& 31)) (((sC S : Int)) + 1)) - 1)), .int (zI (lowI (x >>> ((zI (14)) &&& 31)) (((sC S : Int)) + 1)))]) (rest := []) ⟨hx, hb, hml, hown, hts⟩ (kL_pair l D k L f g S hR hO ((lowI (x >>> ((zI (9)) &&& 31)) (((sC S : Int)) + 1)) - 1) (by omega) (lowI (x >>> ((zI (14)) &&& 31)) (((sC S : Int)) + 1)) (by omega) ((lowI (x >>> ((zI (4)) &&& 31)) 13) - 1) (by omega) hlt n0 _) (vx_cwSW 4 hts gL_act_L_pair rfl rfl rfl (by decide +kernel) ⟨Nat.le_of_ble_eq_true rfl, Nat.le_of_ble_eq_true rfl⟩) (xc_preS hC hX hP (Nat.le_trans hn9 hS.1) hD hS hAn) rfl rfl hl.1 rfl (lv_room (Nat.le_of_ble_eq_true rfl)) dL_act_537 ⟨Nat.le_of_ble_eq_true rfl, Nat.le_of_ble_eq_true rfl⟩) hD hS hA (fun r148 ur148 H locs hr148 hP hD hS hzr148 => ?_)
                  rw [hQ]
                  exact pc_iret hx hb hrt hP (by rw [← hAd]; exact hD) (by rw [← hAd]; exact hS) (wQ.mono hr148 (fun _ _ _ h9 => as_pair c2 (by omega) h9)) dL_act_540 hlocks
              · refine lv_tableIn (off := 348) (tgt := 507) hx hb dL_act_159 (by rw [zI_toInt (by omega), q96]; decide) (by rw [zI_toInt (by omega), q96]; decide) (by rw [zI_toInt (by omega), q96]; rfl) (by decide) ?_
                refine lv_aload_n hx hb dL_act_507 rfl (lv_at hl 1 rfl) ?_
                refine lv_iload_n hx hb dL_act_508 rfl (lv_at hl 3 rfl) ?_
                refine zr_ifb_eq (tgt := 525) hx hb dL_act_509 (by decide) (fun c149 => ?_) (fun c149 => ?_)
                · exact absurd c149 (by rw [c2]; decide)
                · refine lv_iload_n hx hb dL_act_512 rfl (lv_at hl 2 rfl) ?_
                  refine zr_const hx hb dL_act_513 ?_
                  refine lv_ishr hx hb dL_act_514 ?_
                  refine zr_bipush hx hb dL_act_515 (by decide) ?_
                  refine vp_callSi (va_Run.run (va_runS (As := [.int (x >>> ((zI (4)) &&& 31)), .int (zI (13))]) (rest := [.ref (gA g 0)]) ⟨hx, hb, hml, hown, hts⟩ (kL_low l D k L f (x >>> ((zI (4)) &&& 31)) 13 (by omega)) (va_cwS 2 hts gL_act_L_low rfl rfl rfl (by decide +kernel) ⟨Nat.le_of_ble_eq_true rfl, Nat.le_of_ble_eq_true rfl⟩) (rc_preS hC hP) rfl rfl hl.1 rfl (lv_room (Nat.le_of_ble_eq_true rfl)) dL_act_517 ⟨Nat.zero_le _, Nat.zero_le _⟩)) (fun r150 hr150 => ?_)
                  subst hr150
                  have hl_r150 := lowI_r (x := (x >>> ((zI (4)) &&& 31))) (n := 13) (by omega)
                  refine zr_const hx hb dL_act_520 ?_
                  refine zr_sub hx hb dL_act_521 ?_
                  refine lv_goto (tgt := 533) hx hb dL_act_522 (by decide) ?_
                  refine lv_iload hx hb dL_act_533 (lv_at hl 7 rfl) ?_
                  refine lv_iload hx hb dL_act_535 (lv_at hl 8 rfl) ?_
                  refine pc_calli (vx_runSW (hh := [(0, 7, 8, 14), (0, 7, 13, 17), (0, 7, 18, 19)]) (As := [.ref (gA g 0), .int (zI ((lowI (x >>> ((zI (4)) &&& 31)) 13) - 1)), .int (zI ((lowI (x >>> ((zI (9)) &&& 31)) (((sC S : Int)) + 1)) - 1)), .int (zI (lowI (x >>> ((zI (14)) &&& 31)) (((sC S : Int)) + 1)))]) (rest := []) ⟨hx, hb, hml, hown, hts⟩ (kL_pair l D k L f g S hR hO ((lowI (x >>> ((zI (9)) &&& 31)) (((sC S : Int)) + 1)) - 1) (by omega) (lowI (x >>> ((zI (14)) &&& 31)) (((sC S : Int)) + 1)) (by omega) ((lowI (x >>> ((zI (4)) &&& 31)) 13) - 1) (by omega) hlt n0 _) (vx_cwSW 4 hts gL_act_L_pair rfl rfl rfl (by decide +kernel) ⟨Nat.le_of_ble_eq_true rfl, Nat.le_of_ble_eq_true rfl⟩) (xc_preS hC hX hP (Nat.le_trans hn9 hS.1) hD hS hAn) rfl rfl hl.1 rfl (lv_room (Nat.le_of_ble_eq_true rfl)) dL_act_537 ⟨Nat.le_of_ble_eq_true rfl, Nat.le_of_ble_eq_true rfl⟩) hD hS hA (fun r151 ur151 H locs hr151 hP hD hS hzr151 => ?_)
                  rw [hQ]
                  exact pc_iret hx hb hrt hP (by rw [← hAd]; exact hD) (by rw [← hAd]; exact hS) (wQ.mono hr151 (fun _ _ _ h9 => as_pair c2 (by omega) h9)) dL_act_540 hlocks
              · refine lv_tableIn (off := 348) (tgt := 507) hx hb dL_act_159 (by rw [zI_toInt (by omega), q96]; decide) (by rw [zI_toInt (by omega), q96]; decide) (by rw [zI_toInt (by omega), q96]; rfl) (by decide) ?_
                refine lv_aload_n hx hb dL_act_507 rfl (lv_at hl 1 rfl) ?_
                refine lv_iload_n hx hb dL_act_508 rfl (lv_at hl 3 rfl) ?_
                refine zr_ifb_eq (tgt := 525) hx hb dL_act_509 (by decide) (fun c152 => ?_) (fun c152 => ?_)
                · exact absurd c152 (by rw [c2]; decide)
                · refine lv_iload_n hx hb dL_act_512 rfl (lv_at hl 2 rfl) ?_
                  refine zr_const hx hb dL_act_513 ?_
                  refine lv_ishr hx hb dL_act_514 ?_
                  refine zr_bipush hx hb dL_act_515 (by decide) ?_
                  refine vp_callSi (va_Run.run (va_runS (As := [.int (x >>> ((zI (4)) &&& 31)), .int (zI (13))]) (rest := [.ref (gA g 0)]) ⟨hx, hb, hml, hown, hts⟩ (kL_low l D k L f (x >>> ((zI (4)) &&& 31)) 13 (by omega)) (va_cwS 2 hts gL_act_L_low rfl rfl rfl (by decide +kernel) ⟨Nat.le_of_ble_eq_true rfl, Nat.le_of_ble_eq_true rfl⟩) (rc_preS hC hP) rfl rfl hl.1 rfl (lv_room (Nat.le_of_ble_eq_true rfl)) dL_act_517 ⟨Nat.zero_le _, Nat.zero_le _⟩)) (fun r153 hr153 => ?_)
                  subst hr153
                  have hl_r153 := lowI_r (x := (x >>> ((zI (4)) &&& 31))) (n := 13) (by omega)
                  refine zr_const hx hb dL_act_520 ?_
                  refine zr_sub hx hb dL_act_521 ?_
                  refine lv_goto (tgt := 533) hx hb dL_act_522 (by decide) ?_
                  refine lv_iload hx hb dL_act_533 (lv_at hl 7 rfl) ?_
                  refine lv_iload hx hb dL_act_535 (lv_at hl 8 rfl) ?_
                  refine pc_calli (vx_runSW (hh := [(0, 7, 8, 14), (0, 7, 13, 17), (0, 7, 18, 19)]) (As := [.ref (gA g 0), .int (zI ((lowI (x >>> ((zI (4)) &&& 31)) 13) - 1)), .int (zI ((lowI (x >>> ((zI (9)) &&& 31)) (((sC S : Int)) + 1)) - 1)), .int (zI (lowI (x >>> ((zI (14)) &&& 31)) (((sC S : Int)) + 1)))]) (rest := []) ⟨hx, hb, hml, hown, hts⟩ (kL_pair l D k L f g S hR hO ((lowI (x >>> ((zI (9)) &&& 31)) (((sC S : Int)) + 1)) - 1) (by omega) (lowI (x >>> ((zI (14)) &&& 31)) (((sC S : Int)) + 1)) (by omega) ((lowI (x >>> ((zI (4)) &&& 31)) 13) - 1) (by omega) hlt n0 _) (vx_cwSW 4 hts gL_act_L_pair rfl rfl rfl (by decide +kernel) ⟨Nat.le_of_ble_eq_true rfl, Nat.le_of_ble_eq_true rfl⟩) (xc_preS hC hX hP (Nat.le_trans hn9 hS.1) hD hS hAn) rfl rfl hl.1 rfl (lv_room (Nat.le_of_ble_eq_true rfl)) dL_act_537 ⟨Nat.le_of_ble_eq_true rfl, Nat.le_of_ble_eq_true rfl⟩) hD hS hA (fun r154 ur154 H locs hr154 hP hD hS hzr154 => ?_)
                  rw [hQ]
                  exact pc_iret hx hb hrt hP (by rw [← hAd]; exact hD) (by rw [← hAd]; exact hS) (wQ.mono hr154 (fun _ _ _ h9 => as_pair c2 (by omega) h9)) dL_act_540 hlocks
              · refine lv_tableIn (off := 303) (tgt := 462) hx hb dL_act_159 (by rw [zI_toInt (by omega), q96]; decide) (by rw [zI_toInt (by omega), q96]; decide) (by rw [zI_toInt (by omega), q96]; rfl) (by decide) ?_
                refine lv_iload_n hx hb dL_act_462 rfl (lv_at hl 2 rfl) ?_
                refine zr_bipush hx hb dL_act_463 (by decide) ?_
                refine lv_ishr hx hb dL_act_465 ?_
                refine zr_const hx hb dL_act_466 ?_
                refine vp_callSi (va_Run.run (va_runS (As := [.int (x >>> ((zI (14)) &&& 31)), .int (zI (2))]) (rest := []) ⟨hx, hb, hml, hown, hts⟩ (kL_low l D k L f (x >>> ((zI (14)) &&& 31)) 2 (by omega)) (va_cwS 2 hts gL_act_L_low rfl rfl rfl (by decide +kernel) ⟨Nat.le_of_ble_eq_true rfl, Nat.le_of_ble_eq_true rfl⟩) (rc_preS hC hP) rfl rfl hl.1 rfl (lv_room (Nat.le_of_ble_eq_true rfl)) dL_act_467 ⟨Nat.zero_le _, Nat.zero_le _⟩)) (fun r155 hr155 => ?_)
                subst hr155
                have hl_r155 := lowI_r (x := (x >>> ((zI (14)) &&& 31))) (n := 2) (by omega)
                refine zr_if_ne (tgt := 482) hx hb dL_act_470 (by decide) (by omega) (fun c156 => ?_) (fun c156 => ?_)
                · refine lv_aload_n hx hb dL_act_482 rfl (lv_at hl 1 rfl) ?_
                  refine lv_iload hx hb dL_act_483 (lv_at hl 6 rfl) ?_
                  refine lv_iload_n hx hb dL_act_485 rfl (lv_at hl 2 rfl) ?_
                  refine zr_bipush hx hb dL_act_486 (by decide) ?_
                  refine lv_ishr hx hb dL_act_488 ?_
                  refine zr_const hx hb dL_act_489 ?_
                  refine vp_callSi (va_Run.run (va_runS (As := [.int (x >>> ((zI (12)) &&& 31)), .int (zI (5))]) (rest := [.int (zI (lowI (x >>> ((zI (9)) &&& 31)) 5)), .ref (gA g 0)]) ⟨hx, hb, hml, hown, hts⟩ (kL_low l D k L f (x >>> ((zI (12)) &&& 31)) 5 (by omega)) (va_cwS 2 hts gL_act_L_low rfl rfl rfl (by decide +kernel) ⟨Nat.le_of_ble_eq_true rfl, Nat.le_of_ble_eq_true rfl⟩) (rc_preS hC hP) rfl rfl hl.1 rfl (lv_room (Nat.le_of_ble_eq_true rfl)) dL_act_490 ⟨Nat.zero_le _, Nat.zero_le _⟩)) (fun r157 hr157 => ?_)
                  subst hr157
                  have hl_r157 := lowI_r (x := (x >>> ((zI (12)) &&& 31))) (n := 5) (by omega)
                  refine lv_iload_n hx hb dL_act_493 rfl (lv_at hl 3 rfl) ?_
                  refine zr_ifb_eq (tgt := 501) hx hb dL_act_494 (by decide) (fun c158 => ?_) (fun c158 => ?_)
                  · exact absurd c158 (by rw [c2]; decide)
                  · refine zr_const hx hb dL_act_497 ?_
                    refine lv_goto (tgt := 502) hx hb dL_act_498 (by decide) ?_
                    refine zr_sub hx hb dL_act_502 ?_
                    refine pc_calli (vx_runSW (hh := [(0, 6, 7, 14)]) (As := [.ref (gA g 0), .int (zI (lowI (x >>> ((zI (9)) &&& 31)) 5)), .int (zI ((lowI (x >>> ((zI (12)) &&& 31)) 5) - 1))]) (rest := []) ⟨hx, hb, hml, hown, hts⟩ (kL_unmark l D k L f g S hR hO (lowI (x >>> ((zI (9)) &&& 31)) 5) (by omega) ((lowI (x >>> ((zI (12)) &&& 31)) 5) - 1) (by omega) hlt n0 _) (vx_cwSW 3 hts gL_act_L_unmark rfl rfl rfl (by decide +kernel) ⟨Nat.le_of_ble_eq_true rfl, Nat.le_of_ble_eq_true rfl⟩) (xc_preS hC hX hP (Nat.le_trans hn9 hS.1) hD hS hAn) rfl rfl hl.1 rfl (lv_room (Nat.le_of_ble_eq_true rfl)) dL_act_503 ⟨Nat.le_of_ble_eq_true rfl, Nat.le_of_ble_eq_true rfl⟩) hD hS hA (fun r159 ur159 H locs hr159 hP hD hS hzr159 => ?_)
                    rw [hQ]
                    exact pc_iret hx hb hrt hP (by rw [← hAd]; exact hD) (by rw [← hAd]; exact hS) (wQ.mono hr159 (fun _ _ _ h9 => as_un16 c2 (by omega) (by assumption) h9)) dL_act_506 hlocks
                · refine lv_aload_n hx hb dL_act_473 rfl (lv_at hl 1 rfl) ?_
                  refine lv_iload hx hb dL_act_474 (lv_at hl 5 rfl) ?_
                  refine pc_calli (vx_runSW (hh := [(0, 5, 6, 14)]) (As := [.ref (gA g 0), .int (zI ((lowI (x >>> ((zI (4)) &&& 31)) (((sN S)) + 3)) - 1))]) (rest := []) ⟨hx, hb, hml, hown, hts⟩ (kL_remove l D k L f g S hR hO ((lowI (x >>> ((zI (4)) &&& 31)) (((sN S)) + 3)) - 1) (by omega) hlt n0 _) (vx_cwSW 2 hts gL_act_L_remove rfl rfl rfl (by decide +kernel) ⟨Nat.le_of_ble_eq_true rfl, Nat.le_of_ble_eq_true rfl⟩) (xc_preS hC hX hP (Nat.le_trans hn9 hS.1) hD hS hAn) rfl rfl hl.1 rfl (lv_room (Nat.le_of_ble_eq_true rfl)) dL_act_476 ⟨Nat.le_of_ble_eq_true rfl, Nat.le_of_ble_eq_true rfl⟩) hD hS hA (fun r160 ur160 H locs hr160 hP hD hS hzr160 => ?_)
                  refine lv_goto (tgt := 506) hx hb dL_act_479 (by decide) ?_
                  rw [hQ]
                  exact pc_iret hx hb hrt hP (by rw [← hAd]; exact hD) (by rw [← hAd]; exact hS) (wQ.mono hr160 (fun _ _ _ h9 => as_rem16 c2 (by omega) (by assumption) h9)) dL_act_506 hlocks
              · exfalso; omega
            refine lv_iload hx hb dL_act_120 (lv_at hl 0 rfl) ?_
            refine zr_const hx hb dL_act_122 ?_
            refine zr_icmp_ge (tgt := 132) hx hb dL_act_123 (by decide) (by omega) (by omega) (fun c161 => ?_) (fun c161 => ?_)
            · refine lv_iload hx hb dL_act_132 (lv_at hl 0 rfl) ?_
              refine zr_bipush hx hb dL_act_134 (by decide) ?_
              refine zr_icmp_le (tgt := 153) hx hb dL_act_136 (by decide) (by omega) (by omega) (fun c162 => ?_) (fun c162 => ?_)
              · refine lv_iload hx hb dL_act_153 (lv_at hl 0 rfl) ?_
                refine zr_top (y := zI (aWhat x (sN S) (sC S : Int))) (congrArg zI (by unfold aWhat; rw [if_neg (by omega)])) ?_
                exact cut_155b () _ _ hP hD hS _ (lv_sub hl [7, 8, 6, 5, 4, 3, 2, 1, 0] rfl)
              · refine lv_aload_n hx hb dL_act_139 rfl (lv_at hl 7 rfl) ?_
                refine vp_callSi (va_Run.run (va_runV (As := []) (rest := []) ⟨hx, hb, hml, hown, hts⟩ (kX9_nodes l D k L f g S hR hO) (cwV 0 hts gL_act_X9_nodes rfl rfl rfl (by decide +kernel) ⟨Nat.le_of_ble_eq_true rfl, Nat.le_of_ble_eq_true rfl⟩) (rc_preV hC hP (pl_recv hK hP (hR.2.1 0 (by decide)) hR.1.1 (ci := 8) (q := (RX9, TX9, 3)) rfl)) rfl rfl hl.1 rfl (lv_room (Nat.le_of_ble_eq_true rfl)) dL_act_140 ⟨Nat.zero_le _, Nat.zero_le _⟩)) (fun r163 hr163 => ?_)
                subst hr163
                refine zr_bipush hx hb dL_act_143 (by decide) ?_
                refine zr_icmp_le (tgt := 153) hx hb dL_act_145 (by decide) (by omega) (by omega) (fun c164 => ?_) (fun c164 => ?_)
                · refine lv_iload hx hb dL_act_153 (lv_at hl 0 rfl) ?_
                  refine zr_top (y := zI (aWhat x (sN S) (sC S : Int))) (congrArg zI (by unfold aWhat; rw [if_neg (by omega)])) ?_
                  exact cut_155b () _ _ hP hD hS _ (lv_sub hl [7, 8, 6, 5, 4, 3, 2, 1, 0] rfl)
                · refine zr_bipush hx hb dL_act_148 (by decide) ?_
                  refine lv_goto (tgt := 155) hx hb dL_act_150 (by decide) ?_
                  refine zr_top (y := zI (aWhat x (sN S) (sC S : Int))) (congrArg zI (by unfold aWhat; rw [if_pos (by omega)])) ?_
                  exact cut_155b () _ _ hP hD hS _ (lv_sub hl [7, 8, 6, 5, 4, 3, 2, 1, 0] rfl)
            · refine lv_iload_n hx hb dL_act_126 rfl (lv_at hl 5 rfl) ?_
              refine zr_bipush hx hb dL_act_127 (by decide) ?_
              refine zr_icmp_gt (tgt := 148) hx hb dL_act_129 (by decide) (by omega) (by omega) (fun c165 => ?_) (fun c165 => ?_)
              · refine zr_bipush hx hb dL_act_148 (by decide) ?_
                refine lv_goto (tgt := 155) hx hb dL_act_150 (by decide) ?_
                refine zr_top (y := zI (aWhat x (sN S) (sC S : Int))) (congrArg zI (by unfold aWhat; rw [if_pos (by omega)])) ?_
                exact cut_155b () _ _ hP hD hS _ (lv_sub hl [7, 8, 6, 5, 4, 3, 2, 1, 0] rfl)
              · refine lv_iload hx hb dL_act_132 (lv_at hl 0 rfl) ?_
                refine zr_bipush hx hb dL_act_134 (by decide) ?_
                refine zr_icmp_le (tgt := 153) hx hb dL_act_136 (by decide) (by omega) (by omega) (fun c166 => ?_) (fun c166 => ?_)
                · refine lv_iload hx hb dL_act_153 (lv_at hl 0 rfl) ?_
                  refine zr_top (y := zI (aWhat x (sN S) (sC S : Int))) (congrArg zI (by unfold aWhat; rw [if_neg (by omega)])) ?_
                  exact cut_155b () _ _ hP hD hS _ (lv_sub hl [7, 8, 6, 5, 4, 3, 2, 1, 0] rfl)
                · refine lv_aload_n hx hb dL_act_139 rfl (lv_at hl 7 rfl) ?_
                  refine vp_callSi (va_Run.run (va_runV (As := []) (rest := []) ⟨hx, hb, hml, hown, hts⟩ (kX9_nodes l D k L f g S hR hO) (cwV 0 hts gL_act_X9_nodes rfl rfl rfl (by decide +kernel) ⟨Nat.le_of_ble_eq_true rfl, Nat.le_of_ble_eq_true rfl⟩) (rc_preV hC hP (pl_recv hK hP (hR.2.1 0 (by decide)) hR.1.1 (ci := 8) (q := (RX9, TX9, 3)) rfl)) rfl rfl hl.1 rfl (lv_room (Nat.le_of_ble_eq_true rfl)) dL_act_140 ⟨Nat.zero_le _, Nat.zero_le _⟩)) (fun r167 hr167 => ?_)
                  subst hr167
                  refine zr_bipush hx hb dL_act_143 (by decide) ?_
                  refine zr_icmp_le (tgt := 153) hx hb dL_act_145 (by decide) (by omega) (by omega) (fun c168 => ?_) (fun c168 => ?_)
                  · refine lv_iload hx hb dL_act_153 (lv_at hl 0 rfl) ?_
                    refine zr_top (y := zI (aWhat x (sN S) (sC S : Int))) (congrArg zI (by unfold aWhat; rw [if_neg (by omega)])) ?_
                    exact cut_155b () _ _ hP hD hS _ (lv_sub hl [7, 8, 6, 5, 4, 3, 2, 1, 0] rfl)
                  · refine zr_bipush hx hb dL_act_148 (by decide) ?_
                    refine lv_goto (tgt := 155) hx hb dL_act_150 (by decide) ?_
                    refine zr_top (y := zI (aWhat x (sN S) (sC S : Int))) (congrArg zI (by unfold aWhat; rw [if_pos (by omega)])) ?_
                    exact cut_155b () _ _ hP hD hS _ (lv_sub hl [7, 8, 6, 5, 4, 3, 2, 1, 0] rfl)
  refine lv_iload_n hx hb dL_act_0 rfl (lv_at hl 1 rfl) ?_
  refine zr_bipush hx hb dL_act_1 (by decide) ?_
  refine lv_ishr hx hb dL_act_3 ?_
  refine zr_bipush hx hb dL_act_4 (by decide) ?_
  refine vp_callSi (va_Run.run (va_runS (As := [.int (x >>> ((zI (24)) &&& 31)), .int (zI (9))]) (rest := []) ⟨hx, hb, hml, hown, hts⟩ (kL_low l D k L f (x >>> ((zI (24)) &&& 31)) 9 (by omega)) (va_cwS 2 hts gL_act_L_low rfl rfl rfl (by decide +kernel) ⟨Nat.le_of_ble_eq_true rfl, Nat.le_of_ble_eq_true rfl⟩) (rc_preS hC hP) rfl rfl hl.1 rfl (lv_room (Nat.le_of_ble_eq_true rfl)) dL_act_6 ⟨Nat.zero_le _, Nat.zero_le _⟩)) (fun r169 hr169 => ?_)
  subst hr169
  have hl_r169 := lowI_r (x := (x >>> ((zI (24)) &&& 31))) (n := 9) (by omega)
  refine zr_if_ne (tgt := 16) hx hb dL_act_9 (by decide) (by omega) (fun c170 => ?_) (fun c170 => ?_)
  · refine zr_const hx hb dL_act_16 ?_
    refine zr_top (y := bI (aOdd x)) (by unfold aOdd; rw [decide_eq_false c170]; decide) ?_
    exact cut_17 () _ _ hP hD hS _ (lv_sub hl [0, 1] rfl)
  · refine zr_const hx hb dL_act_12 ?_
    refine lv_goto (tgt := 17) hx hb dL_act_13 (by decide) ?_
    refine zr_top (y := bI (aOdd x)) (by unfold aOdd; rw [decide_eq_true c170]; decide) ?_
    exact cut_17 () _ _ hP hD hS _ (lv_sub hl [0, 1] rfl)
