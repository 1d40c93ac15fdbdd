theorem ra_no {S S2 : SA} {kk : Int} {v : Int32} {i : Nat} {G : Nat → Int32} (hO : aOK S) (hi : i < sC S) (hG : Rp G (sem S i)) {y : Int} (hy : ¬ (0 ≤ y ∧ y < ((sizeR G : Nat) : Int))) (h : SpRegionAt S (i : Int) y kk v S2) : kk = 1 ∧ S = S2 := by
  rcases h with ⟨_, h2, h3⟩ | ⟨_, h2, h3, _⟩ | ⟨_, _, _, G9, p, q, h4, h5, h6, h7, h8, _⟩
  · exact ⟨h2, h3⟩
  · exact ⟨h2, h3⟩
  · rw [Int.toNat_natCast] at h4
    have h9 := lin_lt h4 (sem24 hO hi) (q := 25 * p + q) (by omega) (by rw [linB_at _ (by omega)]; exact h7)
    rw [size_cong (Rp.eq h4 hG)] at h9
    exfalso
    omega
set_option maxHeartbeats 4000000 in
set_option maxRecDepth 100000 in
theorem kL_isNodeSo (l : Launch) (D : va_G) (k : Nat → ClassId) (L : List Nat) (f : Nat → va_E) (g : CG) (S : SA) (hR : cRep k L f g S) (hO : aOK S) (i : Nat) (hi : i < sC S) (hlt : l.stackTraces = false) (n0 sz : Nat) : Met l yL_isNodeSo wsL_isNodeSo ({ frames := 10, cells := 14, slots := 164, locals := 212 } : Room) (va_Pc [.ref (gA g 0), .int (zI ((i : Int)))] (xPre D (tyL k) n0 (va_pl L f) sz)) (va_Qi (fun r9 u => r9 = bI true ∧ ∃ (F : Nat → va_E) (g2 : CG), u = va_pl L F ∧ gA g2 0 = gA g 0 ∧ cRep k L F g2 S) (pB D (va_pl L f) sz) (va_A (va_pl L f) sz)) 14 164 (va_A (va_pl L f) sz) := by
  refine Met.ofW (cc := cL_isNodeSo) (maxL := 13) (ret := (some .boolean)) (by decide) rfl ?_
  intro p e s m args below meth c s₁ B hml hv
  obtain ⟨rfl, ⟨hsz, hn9, hP, hC, hD0⟩, hX⟩ := hv
  have hK := hC.1
  have hNW := hC.2.1
  have hx := B.exec
  have hb := B.bytes
  have hrt := B.returns
  have hts := atoms_spec (ws := wsL_isNodeSo) B.pre
  have hown : s.vm.findClass RL = some m.cls := findClass_of_methodNamed B.named
  have hlocks := B.notSynchronized
  subst hsz
  obtain ⟨A, hAd⟩ : ∃ A, A = va_A (va_pl L f) s.heap.size := ⟨_, rfl⟩
  have hD := hD0.self (sz := s.heap.size)
  rw [← hAd] at hD
  have hA : ∀ q : Nat, s.heap.size ≤ q → A q := fun q h => by rw [hAd]; exact Or.inr h
  have hAn : ∀ q : Nat, A q → n0 ≤ q := fun q h => by
    rw [hAd] at h
    rcases h with ⟨k9, e9, hk9⟩ | h
    · exact hD0.2 k9 _ hk9
    · exact Nat.le_trans hn9 h
  have hS : va_S A s.heap s.heap [] := va_S.rf
  have hl := lv_entry ([.ref (gA g 0), .int (zI ((i : Int)))]) (n := 13) (Nat.le_of_ble_eq_true rfl)
  rw [lg_entry_eq]
  generalize (lg_sl ([.ref (gA g 0), .int (zI ((i : Int)))]) ++ List.replicate (13 - (lg_sl ([.ref (gA g 0), .int (zI ((i : Int)))])).length) Slot.unset).toArray = ls at hl ⊢
  have hl : lv_has ls 13 [(0, .ref (gA g 0)), (1, .int (zI ((i : Int))))] := hl
  obtain ⟨Q, hQ⟩ : ∃ Q, Q = MQ below (va_Qi (fun r9 u => r9 = bI true ∧ ∃ (F : Nat → va_E) (g2 : CG), u = va_pl L F ∧ gA g2 0 = gA g 0 ∧ cRep k L F g2 S) (pB D (va_pl L f) s.heap.size) (va_A (va_pl L f) s.heap.size)) ([.ref (gA g 0), .int (zI ((i : Int)))] : List Value).toArray s 14 164 (va_A (va_pl L f) s.heap.size) := ⟨_, rfl⟩
  rw [← hQ]
  have hn0 := hO.1
  have hc0 := hO.2.2.2.1
  have h24 := sem24 hO hi
  have hN := semG hO hi
  refine lv_aload_n hx hb dL_isNodeSo_0 rfl (lv_at hl 0 rfl) ?_
  refine lv_iload_n hx hb dL_isNodeSo_1 rfl (lv_at hl 1 rfl) ?_
  refine pc_calli (va_runV (As := [.int (zI ((i : Int)))]) (rest := []) ⟨hx, hb, hml, hown, hts⟩ (kX9_regions l D k L f g S hR hO i hi n0 _) (cwV 1 hts gL_isNodeSo_X9_regions rfl rfl rfl (by decide +kernel) ⟨Nat.le_of_ble_eq_true rfl, Nat.le_of_ble_eq_true rfl⟩) (pc_preV hC hP (Nat.le_trans hn9 hS.1) hD hAn (pl_recv hK hP (hR.2.1 0 (by decide)) hR.1.1 (ci := 8) (q := (RX9, TX9, 3)) rfl)) rfl rfl hl.1 rfl (lv_room (Nat.le_of_ble_eq_true rfl)) dL_isNodeSo_2 ⟨Nat.zero_le _, Nat.zero_le _⟩) hD hS hA (fun r1 ur1 H locs hr1 hP hD hS hzr1 => ?_)
  obtain ⟨e_r1, F_r1, rfl, c_r1⟩ := hr1
  have G_r1 := gat_rows hR hO hi
  obtain ⟨G, hGe⟩ : ∃ G, G = gatN S (gD g i) (gR g 2) 30 i := ⟨_, rfl⟩
  rw [← hGe] at e_r1 G_r1
  have hG : Rp G (sem S i) := G_r1
  have hs6 := size_600 hG h24
  subst e_r1
  obtain ⟨g_r1, q_r1, R_r1⟩ : ∃ gx : CG, gA gx 0 = gA g 0 ∧ cRep k L F_r1 gx S := ⟨_, by rfl, c_r1⟩
  rw [← q_r1] at hl
  refine lv_istore_n (lv' := [(2, .int (zI (((sizeR G : Nat) : Int)))), (0, .ref (gA g_r1 0)), (1, .int (zI ((i : Int))))]) hx hb dL_isNodeSo_5 rfl hl (by decide) rfl (fun ls hl => ?_)
  refine lv_aload_n hx hb dL_isNodeSo_6 rfl (lv_at hl 1 rfl) ?_
  refine vp_callSi (va_Run.run (va_runV (As := []) (rest := []) ⟨hx, hb, hml, hown, hts⟩ (kX9_length l D k L F_r1 g_r1 S R_r1 hO) (cwV 0 hts gL_isNodeSo_X9_length rfl rfl rfl (by decide +kernel) ⟨Nat.le_of_ble_eq_true rfl, Nat.le_of_ble_eq_true rfl⟩) (rc_preV hC hP (pl_recv hK hP (R_r1.2.1 0 (by decide)) R_r1.1.1 (ci := 8) (q := (RX9, TX9, 3)) rfl)) rfl rfl hl.1 rfl (lv_room (Nat.le_of_ble_eq_true rfl)) dL_isNodeSo_7 ⟨Nat.zero_le _, Nat.zero_le _⟩)) (fun r2 hr2 => ?_)
  subst hr2
  refine lv_istore_n (lv' := [(3, .int (zI ((sN S)))), (2, .int (zI (((sizeR G : Nat) : Int)))), (0, .ref (gA g_r1 0)), (1, .int (zI ((i : Int))))]) hx hb dL_isNodeSo_10 rfl hl (by decide) rfl (fun ls hl => ?_)
  refine zr_const hx hb dL_isNodeSo_11 ?_
  refine lv_istore (lv' := [(4, .int (zI (-1))), (3, .int (zI ((sN S)))), (2, .int (zI (((sizeR G : Nat) : Int)))), (0, .ref (gA g_r1 0)), (1, .int (zI ((i : Int))))]) hx hb dL_isNodeSo_12 hl (by decide) rfl (fun ls hl => ?_)
  refine zr_const hx hb dL_isNodeSo_14 ?_
  refine lv_istore (lv' := [(5, .int (zI (0))), (4, .int (zI (-1))), (3, .int (zI ((sN S)))), (2, .int (zI (((sizeR G : Nat) : Int)))), (0, .ref (gA g_r1 0)), (1, .int (zI ((i : Int))))]) hx hb dL_isNodeSo_15 hl (by decide) rfl (fun ls hl => ?_)
  refine zr_const hx hb dL_isNodeSo_17 ?_
  refine lv_istore (lv' := [(6, .int (zI (0))), (5, .int (zI (0))), (4, .int (zI (-1))), (3, .int (zI ((sN S)))), (2, .int (zI (((sizeR G : Nat) : Int)))), (0, .ref (gA g_r1 0)), (1, .int (zI ((i : Int))))]) hx hb dL_isNodeSo_18 hl (by decide) rfl (fun ls hl => ?_)
  refine zr_const hx hb dL_isNodeSo_20 ?_
  refine lv_istore (lv' := [(7, .int (zI (0))), (6, .int (zI (0))), (5, .int (zI (0))), (4, .int (zI (-1))), (3, .int (zI ((sN S)))), (2, .int (zI (((sizeR G : Nat) : Int)))), (0, .ref (gA g_r1 0)), (1, .int (zI ((i : Int))))]) hx hb dL_isNodeSo_21 hl (by decide) rfl (fun ls hl => ?_)
  refine lv_aload_n hx hb dL_isNodeSo_23 rfl (lv_at hl 6 rfl) ?_
  refine lv_iload_n hx hb dL_isNodeSo_24 rfl (lv_at hl 7 rfl) ?_
  refine pc_calli (va_runV (As := [.int (zI ((i : Int)))]) (rest := []) ⟨hx, hb, hml, hown, hts⟩ (kX9_regionsOneByOne l D k L F_r1 g_r1 S R_r1 hO i hi n0 _) (cwV 1 hts gL_isNodeSo_X9_regionsOneByOne rfl rfl rfl (by decide +kernel) ⟨Nat.le_of_ble_eq_true rfl, Nat.le_of_ble_eq_true rfl⟩) (pc_preV hC hP (Nat.le_trans hn9 hS.1) hD hAn (pl_recv hK hP (R_r1.2.1 0 (by decide)) R_r1.1.1 (ci := 8) (q := (RX9, TX9, 3)) rfl)) rfl rfl hl.1 rfl (lv_room (Nat.le_of_ble_eq_true rfl)) dL_isNodeSo_25 ⟨Nat.zero_le _, Nat.zero_le _⟩) hD hS hA (fun r3 ur3 H locs hr3 hP hD hS hzr3 => ?_)
  obtain ⟨F_r3, X_r3, J_r3, e_r3, rfl, c_r3, k_r3⟩ := hr3
  have G_r3 := ask_rows R_r1 hO hi k_r3
  rw [size_cong (Rp.eq G_r3 hG)] at e_r3
  subst e_r3
  obtain ⟨g_r3, q_r3, R_r3⟩ : ∃ gx : CG, gA gx 0 = gA g_r1 0 ∧ cRep k L F_r3 gx S := ⟨_, by rfl, c_r3⟩
  rw [← q_r3] at hl
  refine lv_iload_n hx hb dL_isNodeSo_28 rfl (lv_at hl 5 rfl) ?_
  refine zr_icmp_ne (tgt := 52) hx hb dL_isNodeSo_29 (by decide) (by omega) (by omega) (fun c4 => ?_) (fun c4 => ?_)
  · exfalso; omega
  · refine lv_aload_n hx hb dL_isNodeSo_32 rfl (lv_at hl 6 rfl) ?_
    refine lv_iload_n hx hb dL_isNodeSo_33 rfl (lv_at hl 7 rfl) ?_
    refine lv_iload_n hx hb dL_isNodeSo_34 rfl (lv_at hl 5 rfl) ?_
    refine pc_calli (vx_runSW (hh := [(0, 6, 7, 14)]) (As := [.ref (gA g_r3 0), .int (zI ((i : Int))), .int (zI (((sizeR G : Nat) : Int)))]) (rest := []) ⟨hx, hb, hml, hown, hts⟩ (kL_regionAt l D k L F_r3 g_r3 S R_r3 hO ((i : Int)) (by omega) (((sizeR G : Nat) : Int)) (by omega) hlt n0 _) (vx_cwSW 3 hts gL_isNodeSo_L_regionAt rfl rfl rfl (by decide +kernel) ⟨Nat.le_of_ble_eq_true rfl, Nat.le_of_ble_eq_true rfl⟩) (xc_preS hC hX hP (Nat.le_trans hn9 hS.1) hD hS hAn) rfl rfl hl.1 rfl (lv_room (Nat.le_of_ble_eq_true rfl)) dL_isNodeSo_35 ⟨Nat.le_of_ble_eq_true rfl, Nat.le_of_ble_eq_true rfl⟩) hD hS hA (fun r5 ur5 H locs hr5 hP hD hS hzr5 => ?_)
    obtain ⟨kk_r5, v_r5, S_r5, F_r5, g_r5, e_r5, -, rfl, q_r5, R_r5, -, s_r5⟩ := hr5
    have t_r5 := ra_no hO hi hG (by omega) s_r5
    rw [← t_r5.2] at R_r5
    rw [t_r5.1, if_neg (by decide)] at e_r5
    subst e_r5
    rw [← q_r5] at hl
    refine zr_const hx hb dL_isNodeSo_38 ?_
    refine zr_icmp_ne (tgt := 52) hx hb dL_isNodeSo_39 (by decide) (by omega) (by omega) (fun c6 => ?_) (fun c6 => ?_)
    · exact absurd c6 (by omega)
    · refine lv_aload_n hx hb dL_isNodeSo_42 rfl (lv_at hl 6 rfl) ?_
      refine lv_iload_n hx hb dL_isNodeSo_43 rfl (lv_at hl 7 rfl) ?_
      refine zr_const hx hb dL_isNodeSo_44 ?_
      refine pc_calli (vx_runSW (hh := [(0, 6, 7, 14)]) (As := [.ref (gA g_r5 0), .int (zI ((i : Int))), .int (zI (-1))]) (rest := []) ⟨hx, hb, hml, hown, hts⟩ (kL_regionAt l D k L F_r5 g_r5 S R_r5 hO ((i : Int)) (by omega) (-1) (by omega) hlt n0 _) (vx_cwSW 3 hts gL_isNodeSo_L_regionAt rfl rfl rfl (by decide +kernel) ⟨Nat.le_of_ble_eq_true rfl, Nat.le_of_ble_eq_true rfl⟩) (xc_preS hC hX hP (Nat.le_trans hn9 hS.1) hD hS hAn) rfl rfl hl.1 rfl (lv_room (Nat.le_of_ble_eq_true rfl)) dL_isNodeSo_45 ⟨Nat.le_of_ble_eq_true rfl, Nat.le_of_ble_eq_true rfl⟩) hD hS hA (fun r7 ur7 H locs hr7 hP hD hS hzr7 => ?_)
      obtain ⟨kk_r7, v_r7, S_r7, F_r7, g_r7, e_r7, -, rfl, q_r7, R_r7, -, s_r7⟩ := hr7
      have t_r7 := ra_no hO hi hG (by omega) s_r7
      rw [← t_r7.2] at R_r7
      rw [t_r7.1, if_neg (by decide)] at e_r7
      subst e_r7
      rw [← q_r7] at hl
      refine zr_const hx hb dL_isNodeSo_48 ?_
      refine zr_icmp_eq (tgt := 54) hx hb dL_isNodeSo_49 (by decide) (by omega) (by omega) (fun c8 => ?_) (fun c8 => ?_)
      · refine zr_const hx hb dL_isNodeSo_54 ?_
        refine lv_istore (lv' := [(8, .int (zI (0))), (7, .int (zI (0))), (6, .int (zI (0))), (5, .int (zI (0))), (4, .int (zI (-1))), (3, .int (zI ((sN S)))), (2, .int (zI (((sizeR G : Nat) : Int)))), (0, .ref (gA g_r7 0)), (1, .int (zI ((i : Int))))]) hx hb dL_isNodeSo_55 hl (by decide) rfl (fun ls hl => ?_)
        have cut_57 : ∀ (n9 : Nat) (F9 : Nat → va_E) (g9 : CG) (z4 : Int) (z5 : Int) (w6 : Int32) (z7 : Int) (z8 : Int), (cRep k L F9 g9 S) → (gA g9 0 = gA g 0) → (0 ≤ z8 ∧ z8 ≤ ((sizeR G : Nat) : Int)) → (nLast G z8 z4) → (nLong G z8 z5) → (nPl G z8 w6) → (z7 = ((fb_ct (bt w6) 24 : Nat) : Int)) → ((sizeR G : Nat) : Int) - z8 < (n9 : Int) → ∀ (H : Heap) (locs : List Loc), va_P D vwCl (va_pl L F9) H → va_D A (va_pl L F9) → va_S A s.heap H locs → ∀ (ls : Array Slot), lv_has ls 13 [(0, .ref (gA g9 0)), (1, .int (zI ((i : Int)))), (2, .int (zI (((sizeR G : Nat) : Int)))), (3, .int (zI ((sN S)))), (4, .int (zI (z4))), (5, .int (zI (z5))), (6, .int (w6)), (7, .int (zI (z7))), (8, .int (zI (z8)))] → W p l e (headSpec wsL_isNodeSo ({ frames := 10, cells := 14, slots := 164, locals := 212 } : Room)).room s m ([.ref (gA g 0), .int (zI ((i : Int)))] : List Value).toArray below meth c H locs 14 164 Q (F0 m 57 ls []) := by
          intro n9
          induction n9 with
          | zero =>
            intro F9 g9 z4 z5 w6 z7 z8 hR9 hq9 hz8 h4 h5 h6 h7 hfu
            exact absurd hfu (by omega)
          | succ n9 ih_57 =>
            intro F9 g9 z4 z5 w6 z7 z8 hR9 hq9 hz8 h4 h5 h6 h7 hfu H locs hP hD hS ls hl
            have hz4r := h4.1
            have hz5 := h5.1
            have hz7 : 0 ≤ z7 ∧ z7 ≤ 24 := ⟨by omega, by have := fb_ct_le (bt w6) 24; omega⟩
            refine lv_iload hx hb dL_isNodeSo_57 (lv_at hl 8 rfl) ?_
            refine lv_iload_n hx hb dL_isNodeSo_59 rfl (lv_at hl 2 rfl) ?_
            refine zr_icmp_ge (tgt := 198) hx hb dL_isNodeSo_60 (by decide) (by omega) (by omega) (fun c9 => ?_) (fun c9 => ?_)
            · have hm8 : z8 = ((sizeR G : Nat) : Int) := by omega
              have hfl := fin_long hG h24 hm8 h5
              have hfc := fin_cov hG h24 hm8 h6 h7
              have hdl := dep_le G
              have hd0 := dep_0 hG h24
              refine lv_aload_n hx hb dL_isNodeSo_198 rfl (lv_at hl 0 rfl) ?_
              refine lv_iload_n hx hb dL_isNodeSo_199 rfl (lv_at hl 1 rfl) ?_
              refine pc_calli (va_runV (As := [.int (zI ((i : Int)))]) (rest := []) ⟨hx, hb, hml, hown, hts⟩ (kX9_deepest l D k L F9 g9 S hR9 hO i hi n0 _) (cwV 1 hts gL_isNodeSo_X9_deepest rfl rfl rfl (by decide +kernel) ⟨Nat.le_of_ble_eq_true rfl, Nat.le_of_ble_eq_true rfl⟩) (pc_preV hC hP (Nat.le_trans hn9 hS.1) hD hAn (pl_recv hK hP (hR9.2.1 0 (by decide)) hR9.1.1 (ci := 8) (q := (RX9, TX9, 3)) rfl)) rfl rfl hl.1 rfl (lv_room (Nat.le_of_ble_eq_true rfl)) dL_isNodeSo_200 ⟨Nat.le_of_ble_eq_true rfl, Nat.le_of_ble_eq_true rfl⟩) hD hS hA (fun r10 ur10 H locs hr10 hP hD hS hzr10 => ?_)
              obtain ⟨e_r10, F_r10, rfl, c_r10⟩ := hr10
              have G_r10 := gat_rows hR9 hO hi
              rw [dep_cong (Rp.eq G_r10 hG)] at e_r10
              subst e_r10
              obtain ⟨g_r10, q_r10, R_r10⟩ : ∃ gx : CG, gA gx 0 = gA g9 0 ∧ cRep k L F_r10 gx S := ⟨_, by rfl, c_r10⟩
              rw [← q_r10] at hl
              refine lv_istore (lv' := [(8, .int (zI (((depN G : Nat) : Int)))), (0, .ref (gA g_r10 0)), (1, .int (zI ((i : Int)))), (2, .int (zI (((sizeR G : Nat) : Int)))), (3, .int (zI ((sN S)))), (4, .int (zI (z4))), (5, .int (zI (z5))), (6, .int (w6)), (7, .int (zI (z7)))]) hx hb dL_isNodeSo_203 hl (by decide) rfl (fun ls hl => ?_)
              refine lv_aload_n hx hb dL_isNodeSo_205 rfl (lv_at hl 1 rfl) ?_
              refine lv_iload_n hx hb dL_isNodeSo_206 rfl (lv_at hl 2 rfl) ?_
              refine pc_calli (va_runV (As := [.int (zI ((i : Int)))]) (rest := []) ⟨hx, hb, hml, hown, hts⟩ (kX9_longest l D k L F_r10 g_r10 S R_r10 hO i hi n0 _) (cwV 1 hts gL_isNodeSo_X9_longest rfl rfl rfl (by decide +kernel) ⟨Nat.le_of_ble_eq_true rfl, Nat.le_of_ble_eq_true rfl⟩) (pc_preV hC hP (Nat.le_trans hn9 hS.1) hD hAn (pl_recv hK hP (R_r10.2.1 0 (by decide)) R_r10.1.1 (ci := 8) (q := (RX9, TX9, 3)) rfl)) rfl rfl hl.1 rfl (lv_room (Nat.le_of_ble_eq_true rfl)) dL_isNodeSo_207 ⟨Nat.le_of_ble_eq_true rfl, Nat.le_of_ble_eq_true rfl⟩) hD hS hA (fun r11 ur11 H locs hr11 hP hD hS hzr11 => ?_)
              obtain ⟨e_r11, F_r11, rfl, c_r11⟩ := hr11
              have G_r11 := gat_rows R_r10 hO hi
              rw [lon_cong (Rp.eq G_r11 hG)] at e_r11
              subst e_r11
              obtain ⟨g_r11, q_r11, R_r11⟩ : ∃ gx : CG, gA gx 0 = gA g_r10 0 ∧ cRep k L F_r11 gx S := ⟨_, by rfl, c_r11⟩
              rw [← q_r11] at hl
              refine lv_iload hx hb dL_isNodeSo_210 (lv_at hl 6 rfl) ?_
              refine zr_icmp_ne (tgt := 289) hx hb dL_isNodeSo_212 (by decide) (by omega) (by omega) (fun c12 => ?_) (fun c12 => ?_)
              · exfalso; omega
              · refine lv_aload_n hx hb dL_isNodeSo_215 rfl (lv_at hl 1 rfl) ?_
                refine lv_iload_n hx hb dL_isNodeSo_216 rfl (lv_at hl 2 rfl) ?_
                refine pc_calli (va_runV (As := [.int (zI ((i : Int)))]) (rest := []) ⟨hx, hb, hml, hown, hts⟩ (kX9_covered l D k L F_r11 g_r11 S R_r11 hO i hi n0 _) (cwV 1 hts gL_isNodeSo_X9_covered rfl rfl rfl (by decide +kernel) ⟨Nat.le_of_ble_eq_true rfl, Nat.le_of_ble_eq_true rfl⟩) (pc_preV hC hP (Nat.le_trans hn9 hS.1) hD hAn (pl_recv hK hP (R_r11.2.1 0 (by decide)) R_r11.1.1 (ci := 8) (q := (RX9, TX9, 3)) rfl)) rfl rfl hl.1 rfl (lv_room (Nat.le_of_ble_eq_true rfl)) dL_isNodeSo_217 ⟨Nat.le_of_ble_eq_true rfl, Nat.le_of_ble_eq_true rfl⟩) hD hS hA (fun r13 ur13 H locs hr13 hP hD hS hzr13 => ?_)
                obtain ⟨e_r13, F_r13, rfl, c_r13⟩ := hr13
                have G_r13 := gat_rows R_r11 hO hi
                rw [cov_cong (Rp.eq G_r13 hG)] at e_r13
                subst e_r13
                obtain ⟨g_r13, q_r13, R_r13⟩ : ∃ gx : CG, gA gx 0 = gA g_r11 0 ∧ cRep k L F_r13 gx S := ⟨_, by rfl, c_r13⟩
                rw [← q_r13] at hl
                refine lv_iload hx hb dL_isNodeSo_220 (lv_at hl 8 rfl) ?_
                refine zr_icmp_ne (tgt := 289) hx hb dL_isNodeSo_222 (by decide) (by omega) (by omega) (fun c14 => ?_) (fun c14 => ?_)
                · exfalso; omega
                · refine lv_iload hx hb dL_isNodeSo_225 (lv_at hl 0 rfl) ?_
                  refine lv_iload_n hx hb dL_isNodeSo_227 rfl (lv_at hl 3 rfl) ?_
                  refine zr_icmp_gt (tgt := 289) hx hb dL_isNodeSo_228 (by decide) (by omega) (by omega) (fun c15 => ?_) (fun c15 => ?_)
                  · exfalso; omega
                  · refine lv_iload hx hb dL_isNodeSo_231 (lv_at hl 0 rfl) ?_
                    refine zr_if_ne (tgt := 240) hx hb dL_isNodeSo_233 (by decide) (by omega) (fun c16 => ?_) (fun c16 => ?_)
                    · refine zr_const hx hb dL_isNodeSo_240 ?_
                      refine lv_iload_n hx hb dL_isNodeSo_241 rfl (lv_at hl 3 rfl) ?_
                      refine zr_if_ne (tgt := 249) hx hb dL_isNodeSo_242 (by decide) (by omega) (fun c17 => ?_) (fun c17 => ?_)
                      · refine zr_const hx hb dL_isNodeSo_249 ?_
                        refine zr_icmp_ne (tgt := 289) hx hb dL_isNodeSo_250 (by decide) (by omega) (by omega) (fun c18 => ?_) (fun c18 => ?_)
                        · exact absurd c18 (by omega)
                        · refine lv_aload_n hx hb dL_isNodeSo_253 rfl (lv_at hl 1 rfl) ?_
                          refine lv_iload_n hx hb dL_isNodeSo_254 rfl (lv_at hl 2 rfl) ?_
                          refine zr_const hx hb dL_isNodeSo_255 ?_
                          refine zr_const hx hb dL_isNodeSo_256 ?_
                          refine pc_calli (va_runV (As := [.int (zI ((i : Int))), .int (zI (0)), .int (zI (0))]) (rest := []) ⟨hx, hb, hml, hown, hts⟩ (kX9_has l D k L F_r13 g_r13 S R_r13 hO i hi (0) (by omega) (0) (by omega) n0 _) (cwV 3 hts gL_isNodeSo_X9_has rfl rfl rfl (by decide +kernel) ⟨Nat.le_of_ble_eq_true rfl, Nat.le_of_ble_eq_true rfl⟩) (pc_preV hC hP (Nat.le_trans hn9 hS.1) hD hAn (pl_recv hK hP (R_r13.2.1 0 (by decide)) R_r13.1.1 (ci := 8) (q := (RX9, TX9, 3)) rfl)) rfl rfl hl.1 rfl (lv_room (Nat.le_of_ble_eq_true rfl)) dL_isNodeSo_257 ⟨Nat.le_of_ble_eq_true rfl, Nat.le_of_ble_eq_true rfl⟩) hD hS hA (fun r19 ur19 H locs hr19 hP hD hS hzr19 => ?_)
                          obtain ⟨e_r19, F_r19, rfl, c_r19⟩ := hr19
                          have G_r19 := gat_rows R_r13 hO hi
                          rw [has_cong (Rp.eq G_r19 hG), hasB_f1 (by omega)] at e_r19
                          subst e_r19
                          obtain ⟨g_r19, q_r19, R_r19⟩ : ∃ gx : CG, gA gx 0 = gA g_r13 0 ∧ cRep k L F_r19 gx S := ⟨_, by rfl, c_r19⟩
                          rw [← q_r19] at hl
                          refine zr_ifb_ne (tgt := 289) hx hb dL_isNodeSo_260 (by decide) (fun c20 => ?_) (fun c20 => ?_)
                          · exact absurd c20 (by decide)
                          · refine lv_aload_n hx hb dL_isNodeSo_263 rfl (lv_at hl 1 rfl) ?_
                            refine lv_iload_n hx hb dL_isNodeSo_264 rfl (lv_at hl 2 rfl) ?_
                            refine zr_const hx hb dL_isNodeSo_265 ?_
                            refine zr_const hx hb dL_isNodeSo_266 ?_
                            refine pc_calli (va_runV (As := [.int (zI ((i : Int))), .int (zI (-1)), .int (zI (2))]) (rest := []) ⟨hx, hb, hml, hown, hts⟩ (kX9_has l D k L F_r19 g_r19 S R_r19 hO i hi (-1) (by omega) (2) (by omega) n0 _) (cwV 3 hts gL_isNodeSo_X9_has rfl rfl rfl (by decide +kernel) ⟨Nat.le_of_ble_eq_true rfl, Nat.le_of_ble_eq_true rfl⟩) (pc_preV hC hP (Nat.le_trans hn9 hS.1) hD hAn (pl_recv hK hP (R_r19.2.1 0 (by decide)) R_r19.1.1 (ci := 8) (q := (RX9, TX9, 3)) rfl)) rfl rfl hl.1 rfl (lv_room (Nat.le_of_ble_eq_true rfl)) dL_isNodeSo_267 ⟨Nat.le_of_ble_eq_true rfl, Nat.le_of_ble_eq_true rfl⟩) hD hS hA (fun r21 ur21 H locs hr21 hP hD hS hzr21 => ?_)
                            obtain ⟨e_r21, F_r21, rfl, c_r21⟩ := hr21
                            have G_r21 := gat_rows R_r19 hO hi
                            rw [has_cong (Rp.eq G_r21 hG), hasB_f1 (by omega)] at e_r21
                            subst e_r21
                            obtain ⟨g_r21, q_r21, R_r21⟩ : ∃ gx : CG, gA gx 0 = gA g_r19 0 ∧ cRep k L F_r21 gx S := ⟨_, by rfl, c_r21⟩
                            rw [← q_r21] at hl
                            refine zr_ifb_ne (tgt := 289) hx hb dL_isNodeSo_270 (by decide) (fun c22 => ?_) (fun c22 => ?_)
                            · exact absurd c22 (by decide)
                            · refine lv_aload_n hx hb dL_isNodeSo_273 rfl (lv_at hl 1 rfl) ?_
                              refine lv_iload_n hx hb dL_isNodeSo_274 rfl (lv_at hl 2 rfl) ?_
                              refine lv_iload_n hx hb dL_isNodeSo_275 rfl (lv_at hl 4 rfl) ?_
                              refine lv_iload_n hx hb dL_isNodeSo_276 rfl (lv_at hl 4 rfl) ?_
                              refine zr_const hx hb dL_isNodeSo_277 ?_
                              refine zr_add hx hb dL_isNodeSo_278 ?_
                              refine pc_calli (va_runV (As := [.int (zI ((i : Int))), .int (zI ((sN S))), .int (zI (((sN S)) + 1))]) (rest := []) ⟨hx, hb, hml, hown, hts⟩ (kX9_has l D k L F_r21 g_r21 S R_r21 hO i hi ((sN S)) (by omega) (((sN S)) + 1) (by omega) n0 _) (cwV 3 hts gL_isNodeSo_X9_has rfl rfl rfl (by decide +kernel) ⟨Nat.le_of_ble_eq_true rfl, Nat.le_of_ble_eq_true rfl⟩) (pc_preV hC hP (Nat.le_trans hn9 hS.1) hD hAn (pl_recv hK hP (R_r21.2.1 0 (by decide)) R_r21.1.1 (ci := 8) (q := (RX9, TX9, 3)) rfl)) rfl rfl hl.1 rfl (lv_room (Nat.le_of_ble_eq_true rfl)) dL_isNodeSo_279 ⟨Nat.le_of_ble_eq_true rfl, Nat.le_of_ble_eq_true rfl⟩) hD hS hA (fun r23 ur23 H locs hr23 hP hD hS hzr23 => ?_)
                              obtain ⟨e_r23, F_r23, rfl, c_r23⟩ := hr23
                              have G_r23 := gat_rows R_r21 hO hi
                              rw [has_cong (Rp.eq G_r23 hG), (show hasB G (sN S) (sN S + 1) = false by have h9 := has_end hG h24 hN; rw [Int.toNat_of_nonneg hn0.1] at h9; exact h9)] at e_r23
                              subst e_r23
                              obtain ⟨g_r23, q_r23, R_r23⟩ : ∃ gx : CG, gA gx 0 = gA g_r21 0 ∧ cRep k L F_r23 gx S := ⟨_, by rfl, c_r23⟩
                              rw [← q_r23] at hl
                              refine zr_ifb_ne (tgt := 289) hx hb dL_isNodeSo_282 (by decide) (fun c24 => ?_) (fun c24 => ?_)
                              · exact absurd c24 (by decide)
                              · refine zr_const hx hb dL_isNodeSo_285 ?_
                                refine lv_goto (tgt := 290) hx hb dL_isNodeSo_286 (by decide) ?_
                                rw [hQ]
                                refine zr_top (y := bI (true)) (by decide) ?_
                                exact pc_zret hx hb hrt hP (by rw [← hAd]; exact hD) (by rw [← hAd]; exact hS) (⟨rfl, F_r23, g_r23, rfl, (q_r23.trans (q_r21.trans (q_r19.trans (q_r13.trans (q_r11.trans (q_r10.trans hq9)))))), R_r23⟩) dL_isNodeSo_290 hlocks
                      · exfalso; omega
                    · refine zr_const hx hb dL_isNodeSo_236 ?_
                      refine lv_goto (tgt := 241) hx hb dL_isNodeSo_237 (by decide) ?_
                      refine lv_iload_n hx hb dL_isNodeSo_241 rfl (lv_at hl 3 rfl) ?_
                      refine zr_if_ne (tgt := 249) hx hb dL_isNodeSo_242 (by decide) (by omega) (fun c25 => ?_) (fun c25 => ?_)
                      · exfalso; omega
                      · refine zr_const hx hb dL_isNodeSo_245 ?_
                        refine lv_goto (tgt := 250) hx hb dL_isNodeSo_246 (by decide) ?_
                        refine zr_icmp_ne (tgt := 289) hx hb dL_isNodeSo_250 (by decide) (by omega) (by omega) (fun c26 => ?_) (fun c26 => ?_)
                        · exact absurd c26 (by omega)
                        · refine lv_aload_n hx hb dL_isNodeSo_253 rfl (lv_at hl 1 rfl) ?_
                          refine lv_iload_n hx hb dL_isNodeSo_254 rfl (lv_at hl 2 rfl) ?_
                          refine zr_const hx hb dL_isNodeSo_255 ?_
                          refine zr_const hx hb dL_isNodeSo_256 ?_
                          refine pc_calli (va_runV (As := [.int (zI ((i : Int))), .int (zI (0)), .int (zI (0))]) (rest := []) ⟨hx, hb, hml, hown, hts⟩ (kX9_has l D k L F_r13 g_r13 S R_r13 hO i hi (0) (by omega) (0) (by omega) n0 _) (cwV 3 hts gL_isNodeSo_X9_has rfl rfl rfl (by decide +kernel) ⟨Nat.le_of_ble_eq_true rfl, Nat.le_of_ble_eq_true rfl⟩) (pc_preV hC hP (Nat.le_trans hn9 hS.1) hD hAn (pl_recv hK hP (R_r13.2.1 0 (by decide)) R_r13.1.1 (ci := 8) (q := (RX9, TX9, 3)) rfl)) rfl rfl hl.1 rfl (lv_room (Nat.le_of_ble_eq_true rfl)) dL_isNodeSo_257 ⟨Nat.le_of_ble_eq_true rfl, Nat.le_of_ble_eq_true rfl⟩) hD hS hA (fun r27 ur27 H locs hr27 hP hD hS hzr27 => ?_)
                          obtain ⟨e_r27, F_r27, rfl, c_r27⟩ := hr27
                          have G_r27 := gat_rows R_r13 hO hi
                          rw [has_cong (Rp.eq G_r27 hG), hasB_f1 (by omega)] at e_r27
                          subst e_r27
                          obtain ⟨g_r27, q_r27, R_r27⟩ : ∃ gx : CG, gA gx 0 = gA g_r13 0 ∧ cRep k L F_r27 gx S := ⟨_, by rfl, c_r27⟩
                          rw [← q_r27] at hl
                          refine zr_ifb_ne (tgt := 289) hx hb dL_isNodeSo_260 (by decide) (fun c28 => ?_) (fun c28 => ?_)
                          · exact absurd c28 (by decide)
                          · refine lv_aload_n hx hb dL_isNodeSo_263 rfl (lv_at hl 1 rfl) ?_
                            refine lv_iload_n hx hb dL_isNodeSo_264 rfl (lv_at hl 2 rfl) ?_
                            refine zr_const hx hb dL_isNodeSo_265 ?_
                            refine zr_const hx hb dL_isNodeSo_266 ?_
                            refine pc_calli (va_runV (As := [.int (zI ((i : Int))), .int (zI (-1)), .int (zI (2))]) (rest := []) ⟨hx, hb, hml, hown, hts⟩ (kX9_has l D k L F_r27 g_r27 S R_r27 hO i hi (-1) (by omega) (2) (by omega) n0 _) (cwV 3 hts gL_isNodeSo_X9_has rfl rfl rfl (by decide +kernel) ⟨Nat.le_of_ble_eq_true rfl, Nat.le_of_ble_eq_true rfl⟩) (pc_preV hC hP (Nat.le_trans hn9 hS.1) hD hAn (pl_recv hK hP (R_r27.2.1 0 (by decide)) R_r27.1.1 (ci := 8) (q := (RX9, TX9, 3)) rfl)) rfl rfl hl.1 rfl (lv_room (Nat.le_of_ble_eq_true rfl)) dL_isNodeSo_267 ⟨Nat.le_of_ble_eq_true rfl, Nat.le_of_ble_eq_true rfl⟩) hD hS hA (fun r29 ur29 H locs hr29 hP hD hS hzr29 => ?_)
                            obtain ⟨e_r29, F_r29, rfl, c_r29⟩ := hr29
                            have G_r29 := gat_rows R_r27 hO hi
                            rw [has_cong (Rp.eq G_r29 hG), hasB_f1 (by omega)] at e_r29
                            subst e_r29
                            obtain ⟨g_r29, q_r29, R_r29⟩ : ∃ gx : CG, gA gx 0 = gA g_r27 0 ∧ cRep k L F_r29 gx S := ⟨_, by rfl, c_r29⟩
                            rw [← q_r29] at hl
                            refine zr_ifb_ne (tgt := 289) hx hb dL_isNodeSo_270 (by decide) (fun c30 => ?_) (fun c30 => ?_)
                            · exact absurd c30 (by decide)
                            · refine lv_aload_n hx hb dL_isNodeSo_273 rfl (lv_at hl 1 rfl) ?_
                              refine lv_iload_n hx hb dL_isNodeSo_274 rfl (lv_at hl 2 rfl) ?_
                              refine lv_iload_n hx hb dL_isNodeSo_275 rfl (lv_at hl 4 rfl) ?_
                              refine lv_iload_n hx hb dL_isNodeSo_276 rfl (lv_at hl 4 rfl) ?_
                              refine zr_const hx hb dL_isNodeSo_277 ?_
                              refine zr_add hx hb dL_isNodeSo_278 ?_
                              refine pc_calli (va_runV (As := [.int (zI ((i : Int))), .int (zI ((sN S))), .int (zI (((sN S)) + 1))]) (rest := []) ⟨hx, hb, hml, hown, hts⟩ (kX9_has l D k L F_r29 g_r29 S R_r29 hO i hi ((sN S)) (by omega) (((sN S)) + 1) (by omega) n0 _) (cwV 3 hts gL_isNodeSo_X9_has rfl rfl rfl (by decide +kernel) ⟨Nat.le_of_ble_eq_true rfl, Nat.le_of_ble_eq_true rfl⟩) (pc_preV hC hP (Nat.le_trans hn9 hS.1) hD hAn (pl_recv hK hP (R_r29.2.1 0 (by decide)) R_r29.1.1 (ci := 8) (q := (RX9, TX9, 3)) rfl)) rfl rfl hl.1 rfl (lv_room (Nat.le_of_ble_eq_true rfl)) dL_isNodeSo_279 ⟨Nat.le_of_ble_eq_true rfl, Nat.le_of_ble_eq_true rfl⟩) hD hS hA (fun r31 ur31 H locs hr31 hP hD hS hzr31 => ?_)
                              obtain ⟨e_r31, F_r31, rfl, c_r31⟩ := hr31
                              have G_r31 := gat_rows R_r29 hO hi
                              rw [has_cong (Rp.eq G_r31 hG), (show hasB G (sN S) (sN S + 1) = false by have h9 := has_end hG h24 hN; rw [Int.toNat_of_nonneg hn0.1] at h9; exact h9)] at e_r31
                              subst e_r31
                              obtain ⟨g_r31, q_r31, R_r31⟩ : ∃ gx : CG, gA gx 0 = gA g_r29 0 ∧ cRep k L F_r31 gx S := ⟨_, by rfl, c_r31⟩
                              rw [← q_r31] at hl
                              refine zr_ifb_ne (tgt := 289) hx hb dL_isNodeSo_282 (by decide) (fun c32 => ?_) (fun c32 => ?_)
                              · exact absurd c32 (by decide)
                              · refine zr_const hx hb dL_isNodeSo_285 ?_
                                refine lv_goto (tgt := 290) hx hb dL_isNodeSo_286 (by decide) ?_
                                rw [hQ]
                                refine zr_top (y := bI (true)) (by decide) ?_
                                exact pc_zret hx hb hrt hP (by rw [← hAd]; exact hD) (by rw [← hAd]; exact hS) (⟨rfl, F_r31, g_r31, rfl, (q_r31.trans (q_r29.trans (q_r27.trans (q_r13.trans (q_r11.trans (q_r10.trans hq9)))))), R_r31⟩) dL_isNodeSo_290 hlocks
            · refine lv_aload_n hx hb dL_isNodeSo_63 rfl (lv_at hl 0 rfl) ?_
              refine lv_iload_n hx hb dL_isNodeSo_64 rfl (lv_at hl 1 rfl) ?_
              refine lv_iload hx hb dL_isNodeSo_65 (lv_at hl 8 rfl) ?_
              have G_kq := gat_rows hR9 hO hi
              obtain ⟨a, b, ha, hb9, hq2, hq3⟩ := lin_kth hG h24 (y := z8) ⟨by omega, by omega⟩
              have hrg : rg G a b := ⟨ha, hb9, hq2⟩
              have hrk : (rk G a b : Int) = z8 := hq3
              have hab := hrg.lt
              have hbn := hN _ _ ((has_i hG h24 a b).mp hq2)
              have hz4 := h4.2 a b hrg (by omega)
              refine pc_calli (va_runV (As := [.int (zI ((i : Int))), .int (zI (z8))]) (rest := []) ⟨hx, hb, hml, hown, hts⟩ (kX9_regionAt l D k L F9 g9 S hR9 hO i hi (z8) (by omega) a b ha hb9 (by rw [has_cong (Rp.eq G_kq hG)]; exact hq2) (by rw [lin_cong (Rp.eq G_kq hG)]; exact hq3) n0 _) (cwV 2 hts gL_isNodeSo_X9_regionAt rfl rfl rfl (by decide +kernel) ⟨Nat.le_of_ble_eq_true rfl, Nat.le_of_ble_eq_true rfl⟩) (pc_preV hC hP (Nat.le_trans hn9 hS.1) hD hAn (pl_recv hK hP (hR9.2.1 0 (by decide)) hR9.1.1 (ci := 8) (q := (RX9, TX9, 3)) rfl)) rfl rfl hl.1 rfl (lv_room (Nat.le_of_ble_eq_true rfl)) dL_isNodeSo_67 ⟨Nat.le_of_ble_eq_true rfl, Nat.le_of_ble_eq_true rfl⟩) hD hS hA (fun r33 ur33 H locs hr33 hP hD hS hzr33 => ?_)
              obtain ⟨e_r33, F_r33, rfl, c_r33⟩ := hr33
              subst e_r33
              obtain ⟨g_r33, q_r33, R_r33⟩ : ∃ gx : CG, gA gx 0 = gA g9 0 ∧ cRep k L F_r33 gx S := ⟨_, by rfl, c_r33⟩
              rw [← q_r33] at hl
              refine lv_istore (lv' := [(9, .int (zI (100 * (a : Int) + (b : Int)))), (0, .ref (gA g_r33 0)), (1, .int (zI ((i : Int)))), (2, .int (zI (((sizeR G : Nat) : Int)))), (3, .int (zI ((sN S)))), (4, .int (zI (z4))), (5, .int (zI (z5))), (6, .int (w6)), (7, .int (zI (z7))), (8, .int (zI (z8)))]) hx hb dL_isNodeSo_70 hl (by decide) rfl (fun ls hl => ?_)
              refine lv_iload hx hb dL_isNodeSo_72 (lv_at hl 0 rfl) ?_
              refine zr_bipush hx hb dL_isNodeSo_74 (by decide) ?_
              refine zr_div hx hb (by omega) (by omega) dL_isNodeSo_76 ?_
              rw [show ((100 * (a : Int) + (b : Int)) / 100 : Int) = (a : Int) by omega]
              refine lv_istore (lv' := [(10, .int (zI ((a : Int)))), (9, .int (zI (100 * (a : Int) + (b : Int)))), (0, .ref (gA g_r33 0)), (1, .int (zI ((i : Int)))), (2, .int (zI (((sizeR G : Nat) : Int)))), (3, .int (zI ((sN S)))), (4, .int (zI (z4))), (5, .int (zI (z5))), (6, .int (w6)), (7, .int (zI (z7))), (8, .int (zI (z8)))]) hx hb dL_isNodeSo_77 hl (by decide) rfl (fun ls hl => ?_)
              refine lv_iload hx hb dL_isNodeSo_79 (lv_at hl 1 rfl) ?_
              refine zr_bipush hx hb dL_isNodeSo_81 (by decide) ?_
              refine zr_rem hx hb (by omega) (by omega) dL_isNodeSo_83 ?_
              rw [show ((100 * (a : Int) + (b : Int)) % 100 : Int) = (b : Int) by omega]
              refine lv_istore (lv' := [(11, .int (zI ((b : Int)))), (10, .int (zI ((a : Int)))), (9, .int (zI (100 * (a : Int) + (b : Int)))), (0, .ref (gA g_r33 0)), (1, .int (zI ((i : Int)))), (2, .int (zI (((sizeR G : Nat) : Int)))), (3, .int (zI ((sN S)))), (4, .int (zI (z4))), (5, .int (zI (z5))), (6, .int (w6)), (7, .int (zI (z7))), (8, .int (zI (z8)))]) hx hb dL_isNodeSo_84 hl (by decide) rfl (fun ls hl => ?_)
              refine lv_iload hx hb dL_isNodeSo_86 (lv_at hl 2 rfl) ?_
              refine lv_iload hx hb dL_isNodeSo_88 (lv_at hl 7 rfl) ?_
              refine zr_icmp_le (tgt := 118) hx hb dL_isNodeSo_90 (by decide) (by omega) (by omega) (fun c34 => ?_) (fun c34 => ?_)
              · exfalso; omega
              · refine lv_iload hx hb dL_isNodeSo_93 (lv_at hl 1 rfl) ?_
                refine lv_iload hx hb dL_isNodeSo_95 (lv_at hl 0 rfl) ?_
                refine zr_icmp_ge (tgt := 118) hx hb dL_isNodeSo_97 (by decide) (by omega) (by omega) (fun c35 => ?_) (fun c35 => ?_)
                · exfalso; omega
                · refine lv_iload hx hb dL_isNodeSo_100 (lv_at hl 0 rfl) ?_
                  refine lv_iload_n hx hb dL_isNodeSo_102 rfl (lv_at hl 6 rfl) ?_
                  refine zr_icmp_gt (tgt := 118) hx hb dL_isNodeSo_103 (by decide) (by omega) (by omega) (fun c36 => ?_) (fun c36 => ?_)
                  · exfalso; omega
                  · refine lv_aload_n hx hb dL_isNodeSo_106 rfl (lv_at hl 3 rfl) ?_
                    refine lv_iload_n hx hb dL_isNodeSo_107 rfl (lv_at hl 4 rfl) ?_
                    refine lv_iload hx hb dL_isNodeSo_108 (lv_at hl 1 rfl) ?_
                    refine lv_iload hx hb dL_isNodeSo_110 (lv_at hl 0 rfl) ?_
                    refine pc_calli (va_runV (As := [.int (zI ((i : Int))), .int (zI ((a : Int))), .int (zI ((b : Int)))]) (rest := []) ⟨hx, hb, hml, hown, hts⟩ (kX9_has l D k L F_r33 g_r33 S R_r33 hO i hi ((a : Int)) (by omega) ((b : Int)) (by omega) n0 _) (cwV 3 hts gL_isNodeSo_X9_has rfl rfl rfl (by decide +kernel) ⟨Nat.le_of_ble_eq_true rfl, Nat.le_of_ble_eq_true rfl⟩) (pc_preV hC hP (Nat.le_trans hn9 hS.1) hD hAn (pl_recv hK hP (R_r33.2.1 0 (by decide)) R_r33.1.1 (ci := 8) (q := (RX9, TX9, 3)) rfl)) rfl rfl hl.1 rfl (lv_room (Nat.le_of_ble_eq_true rfl)) dL_isNodeSo_112 ⟨Nat.le_of_ble_eq_true rfl, Nat.le_of_ble_eq_true rfl⟩) hD hS hA (fun r37 ur37 H locs hr37 hP hD hS hzr37 => ?_)
                    obtain ⟨e_r37, F_r37, rfl, c_r37⟩ := hr37
                    have G_r37 := gat_rows R_r33 hO hi
                    rw [has_cong (Rp.eq G_r37 hG), hq2] at e_r37
                    subst e_r37
                    obtain ⟨g_r37, q_r37, R_r37⟩ : ∃ gx : CG, gA gx 0 = gA g_r33 0 ∧ cRep k L F_r37 gx S := ⟨_, by rfl, c_r37⟩
                    rw [← q_r37] at hl
                    refine zr_ifb_ne (tgt := 120) hx hb dL_isNodeSo_115 (by decide) (fun c38 => ?_) (fun c38 => ?_)
                    · refine lv_iload hx hb dL_isNodeSo_120 (lv_at hl 2 rfl) ?_
                      refine lv_istore (lv' := [(4, .int (zI (100 * (a : Int) + (b : Int)))), (11, .int (zI ((b : Int)))), (10, .int (zI ((a : Int)))), (9, .int (zI (100 * (a : Int) + (b : Int)))), (0, .ref (gA g_r37 0)), (1, .int (zI ((i : Int)))), (2, .int (zI (((sizeR G : Nat) : Int)))), (3, .int (zI ((sN S)))), (5, .int (zI (z5))), (6, .int (w6)), (7, .int (zI (z7))), (8, .int (zI (z8)))]) hx hb dL_isNodeSo_122 hl (by decide) rfl (fun ls hl => ?_)
                      refine lv_iload hx hb dL_isNodeSo_124 (lv_at hl 1 rfl) ?_
                      refine lv_iload hx hb dL_isNodeSo_126 (lv_at hl 2 rfl) ?_
                      refine zr_sub hx hb dL_isNodeSo_128 ?_
                      refine lv_iload hx hb dL_isNodeSo_129 (lv_at hl 8 rfl) ?_
                      have cut_150 : ∀ (n9 : Nat) (z5b : Int) (w6b : Int32) (z7b : Int) (z12 : Int), (nLong G (z8 + 1) z5b) → ((a : Int) ≤ z12 ∧ z12 ≤ (b : Int)) → (nPb w6 w6b (a : Int) z12) → (z7b = ((fb_ct (bt w6b) 24 : Nat) : Int)) → (b : Int) - z12 < (n9 : Int) → ∀ (H : Heap) (locs : List Loc), va_P D vwCl (va_pl L F_r37) H → va_D A (va_pl L F_r37) → va_S A s.heap H locs → ∀ (ls : Array Slot), lv_has ls 13 [(0, .ref (gA g_r37 0)), (1, .int (zI ((i : Int)))), (2, .int (zI (((sizeR G : Nat) : Int)))), (3, .int (zI ((sN S)))), (4, .int (zI (100 * (a : Int) + (b : Int)))), (5, .int (zI (z5b))), (6, .int (w6b)), (7, .int (zI (z7b))), (8, .int (zI (z8))), (9, .int (zI (100 * (a : Int) + (b : Int)))), (10, .int (zI ((a : Int)))), (11, .int (zI ((b : Int)))), (12, .int (zI (z12)))] → W p l e (headSpec wsL_isNodeSo ({ frames := 10, cells := 14, slots := 164, locals := 212 } : Room)).room s m ([.ref (gA g 0), .int (zI ((i : Int)))] : List Value).toArray below meth c H locs 14 164 Q (F0 m 150 ls []) := by
                        intro n9
                        induction n9 with
                        | zero =>
                          intro z5b w6b z7b z12 h5b hz12 h6b h7b hfu
                          exact absurd hfu (by omega)
                        | succ n9 ih_150 =>
                          intro z5b w6b z7b z12 h5b hz12 h6b h7b hfu H locs hP hD hS ls hl
                          have hz5b := h5b.1
                          refine lv_iload hx hb dL_isNodeSo_150 (lv_at hl 12 rfl) ?_
                          refine lv_iload hx hb dL_isNodeSo_152 (lv_at hl 11 rfl) ?_
                          refine zr_icmp_ge (tgt := 192) hx hb dL_isNodeSo_154 (by decide) (by omega) (by omega) (fun c39 => ?_) (fun c39 => ?_)
                          · refine zr_iinc (k := 8) (lv' := [(8, .int (zI (z8 + 1))), (0, .ref (gA g_r37 0)), (1, .int (zI ((i : Int)))), (2, .int (zI (((sizeR G : Nat) : Int)))), (3, .int (zI ((sN S)))), (4, .int (zI (100 * (a : Int) + (b : Int)))), (5, .int (zI (z5b))), (6, .int (w6b)), (7, .int (zI (z7b))), (9, .int (zI (100 * (a : Int) + (b : Int)))), (10, .int (zI ((a : Int)))), (11, .int (zI ((b : Int)))), (12, .int (zI (z12)))]) hx hb dL_isNodeSo_192 hl rfl (by decide) rfl (fun ls hl => ?_)
                            refine lv_goto (tgt := 57) hx hb dL_isNodeSo_195 (by decide) ?_
                            exact ih_57 (F_r37) (g_r37) (100 * (a : Int) + (b : Int)) (z5b) (w6b) (z7b) (z8 + 1) (R_r37) ((q_r37.trans (q_r33.trans hq9))) (by omega) (nLast_s hrg hrk) (h5b) (nPl_s hrg hrk h6 h6b (by omega)) (h7b) (by omega) _ _ hP hD hS _ (lv_sub hl [1, 2, 3, 4, 5, 6, 7, 8, 0] rfl)
                          · refine lv_iload hx hb dL_isNodeSo_157 (lv_at hl 7 rfl) ?_
                            refine lv_iload hx hb dL_isNodeSo_159 (lv_at hl 6 rfl) ?_
                            refine lv_iload hx hb dL_isNodeSo_161 (lv_at hl 12 rfl) ?_
                            refine lv_ishr hx hb dL_isNodeSo_163 ?_
                            refine zr_const hx hb dL_isNodeSo_164 ?_
                            refine lv_iand hx hb dL_isNodeSo_165 ?_
                            refine zr_top ((sh_bit (j := (z12).toNat) (by omega) (by omega)).trans (bI_z _).symm) ?_
                            refine zr_ifb_ne (tgt := 173) hx hb dL_isNodeSo_166 (by decide) (fun c40 => ?_) (fun c40 => ?_)
                            · refine zr_const hx hb dL_isNodeSo_173 ?_
                              refine zr_add hx hb dL_isNodeSo_174 ?_
                              refine lv_istore (lv' := [(7, .int (zI (z7b + 0))), (0, .ref (gA g_r37 0)), (1, .int (zI ((i : Int)))), (2, .int (zI (((sizeR G : Nat) : Int)))), (3, .int (zI ((sN S)))), (4, .int (zI (100 * (a : Int) + (b : Int)))), (5, .int (zI (z5b))), (6, .int (w6b)), (8, .int (zI (z8))), (9, .int (zI (100 * (a : Int) + (b : Int)))), (10, .int (zI ((a : Int)))), (11, .int (zI ((b : Int)))), (12, .int (zI (z12)))]) hx hb dL_isNodeSo_175 hl (by decide) rfl (fun ls hl => ?_)
                              refine lv_iload hx hb dL_isNodeSo_177 (lv_at hl 7 rfl) ?_
                              refine zr_const hx hb dL_isNodeSo_179 ?_
                              refine lv_iload hx hb dL_isNodeSo_180 (lv_at hl 12 rfl) ?_
                              refine zr_shl1 hx hb (by omega) dL_isNodeSo_182 ?_
                              refine lv_ior hx hb dL_isNodeSo_183 ?_
                              refine lv_istore (lv' := [(6, .int (w6b ||| (pw (z12).toNat))), (7, .int (zI (z7b + 0))), (0, .ref (gA g_r37 0)), (1, .int (zI ((i : Int)))), (2, .int (zI (((sizeR G : Nat) : Int)))), (3, .int (zI ((sN S)))), (4, .int (zI (100 * (a : Int) + (b : Int)))), (5, .int (zI (z5b))), (8, .int (zI (z8))), (9, .int (zI (100 * (a : Int) + (b : Int)))), (10, .int (zI ((a : Int)))), (11, .int (zI ((b : Int)))), (12, .int (zI (z12)))]) hx hb dL_isNodeSo_184 hl (by decide) rfl (fun ls hl => ?_)
                              refine zr_iinc (k := 12) (lv' := [(12, .int (zI (z12 + 1))), (6, .int (w6b ||| (pw (z12).toNat))), (7, .int (zI (z7b + 0))), (0, .ref (gA g_r37 0)), (1, .int (zI ((i : Int)))), (2, .int (zI (((sizeR G : Nat) : Int)))), (3, .int (zI ((sN S)))), (4, .int (zI (100 * (a : Int) + (b : Int)))), (5, .int (zI (z5b))), (8, .int (zI (z8))), (9, .int (zI (100 * (a : Int) + (b : Int)))), (10, .int (zI ((a : Int)))), (11, .int (zI ((b : Int))))]) hx hb dL_isNodeSo_186 hl rfl (by decide) rfl (fun ls hl => ?_)
                              refine lv_goto (tgt := 150) hx hb dL_isNodeSo_189 (by decide) ?_
                              exact ih_150 (z5b) (w6b ||| (pw (z12).toNat)) (z7b + 0) (z12 + 1) (h5b) (by omega) (nPb_s h6b (by omega) (by omega)) (ct_b1 (by omega) h7b c40) (by omega) _ _ hP hD hS _ (lv_sub hl [3, 4, 5, 6, 7, 8, 1, 2, 9, 10, 11, 12, 0] rfl)
                            · refine zr_const hx hb dL_isNodeSo_169 ?_
                              refine lv_goto (tgt := 174) hx hb dL_isNodeSo_170 (by decide) ?_
                              refine zr_add hx hb dL_isNodeSo_174 ?_
                              refine lv_istore (lv' := [(7, .int (zI (z7b + 1))), (0, .ref (gA g_r37 0)), (1, .int (zI ((i : Int)))), (2, .int (zI (((sizeR G : Nat) : Int)))), (3, .int (zI ((sN S)))), (4, .int (zI (100 * (a : Int) + (b : Int)))), (5, .int (zI (z5b))), (6, .int (w6b)), (8, .int (zI (z8))), (9, .int (zI (100 * (a : Int) + (b : Int)))), (10, .int (zI ((a : Int)))), (11, .int (zI ((b : Int)))), (12, .int (zI (z12)))]) hx hb dL_isNodeSo_175 hl (by decide) rfl (fun ls hl => ?_)
                              refine lv_iload hx hb dL_isNodeSo_177 (lv_at hl 7 rfl) ?_
                              refine zr_const hx hb dL_isNodeSo_179 ?_
                              refine lv_iload hx hb dL_isNodeSo_180 (lv_at hl 12 rfl) ?_
                              refine zr_shl1 hx hb (by omega) dL_isNodeSo_182 ?_
                              refine lv_ior hx hb dL_isNodeSo_183 ?_
                              refine lv_istore (lv' := [(6, .int (w6b ||| (pw (z12).toNat))), (7, .int (zI (z7b + 1))), (0, .ref (gA g_r37 0)), (1, .int (zI ((i : Int)))), (2, .int (zI (((sizeR G : Nat) : Int)))), (3, .int (zI ((sN S)))), (4, .int (zI (100 * (a : Int) + (b : Int)))), (5, .int (zI (z5b))), (8, .int (zI (z8))), (9, .int (zI (100 * (a : Int) + (b : Int)))), (10, .int (zI ((a : Int)))), (11, .int (zI ((b : Int)))), (12, .int (zI (z12)))]) hx hb dL_isNodeSo_184 hl (by decide) rfl (fun ls hl => ?_)
                              refine zr_iinc (k := 12) (lv' := [(12, .int (zI (z12 + 1))), (6, .int (w6b ||| (pw (z12).toNat))), (7, .int (zI (z7b + 1))), (0, .ref (gA g_r37 0)), (1, .int (zI ((i : Int)))), (2, .int (zI (((sizeR G : Nat) : Int)))), (3, .int (zI ((sN S)))), (4, .int (zI (100 * (a : Int) + (b : Int)))), (5, .int (zI (z5b))), (8, .int (zI (z8))), (9, .int (zI (100 * (a : Int) + (b : Int)))), (10, .int (zI ((a : Int)))), (11, .int (zI ((b : Int))))]) hx hb dL_isNodeSo_186 hl rfl (by decide) rfl (fun ls hl => ?_)
                              refine lv_goto (tgt := 150) hx hb dL_isNodeSo_189 (by decide) ?_
                              exact ih_150 (z5b) (w6b ||| (pw (z12).toNat)) (z7b + 1) (z12 + 1) (h5b) (by omega) (nPb_s h6b (by omega) (by omega)) (ct_b0 (by omega) h7b c40) (by omega) _ _ hP hD hS _ (lv_sub hl [3, 4, 5, 6, 7, 8, 1, 2, 9, 10, 11, 12, 0] rfl)
                      refine zr_icmp_le (tgt := 142) hx hb dL_isNodeSo_131 (by decide) (by omega) (by omega) (fun c41 => ?_) (fun c41 => ?_)
                      · refine lv_iload hx hb dL_isNodeSo_142 (lv_at hl 8 rfl) ?_
                        refine lv_istore (lv' := [(5, .int (zI (z5))), (4, .int (zI (100 * (a : Int) + (b : Int)))), (11, .int (zI ((b : Int)))), (10, .int (zI ((a : Int)))), (9, .int (zI (100 * (a : Int) + (b : Int)))), (0, .ref (gA g_r37 0)), (1, .int (zI ((i : Int)))), (2, .int (zI (((sizeR G : Nat) : Int)))), (3, .int (zI ((sN S)))), (6, .int (w6)), (7, .int (zI (z7))), (8, .int (zI (z8)))]) hx hb dL_isNodeSo_144 hl (by decide) rfl (fun ls hl => ?_)
                        refine lv_iload hx hb dL_isNodeSo_146 (lv_at hl 3 rfl) ?_
                        refine lv_istore (lv' := [(12, .int (zI ((a : Int)))), (5, .int (zI (z5))), (4, .int (zI (100 * (a : Int) + (b : Int)))), (11, .int (zI ((b : Int)))), (10, .int (zI ((a : Int)))), (9, .int (zI (100 * (a : Int) + (b : Int)))), (0, .ref (gA g_r37 0)), (1, .int (zI ((i : Int)))), (2, .int (zI (((sizeR G : Nat) : Int)))), (3, .int (zI ((sN S)))), (6, .int (w6)), (7, .int (zI (z7))), (8, .int (zI (z8)))]) hx hb dL_isNodeSo_148 hl (by decide) rfl (fun ls hl => ?_)
                        exact cut_150 (((b : Int) - ((a : Int)) : Int).toNat + 1) (z5) (w6) (z7) ((a : Int)) (nLong_o hrg hrk h5 (by omega)) (by omega) (nPb_0 _ _) (h7) (by omega) _ _ hP hD hS _ (lv_sub hl [6, 7, 8, 9, 2, 1, 10, 11, 12, 5, 4, 3, 0] rfl)
                      · refine lv_iload hx hb dL_isNodeSo_134 (lv_at hl 1 rfl) ?_
                        refine lv_iload hx hb dL_isNodeSo_136 (lv_at hl 2 rfl) ?_
                        refine zr_sub hx hb dL_isNodeSo_138 ?_
                        refine lv_goto (tgt := 144) hx hb dL_isNodeSo_139 (by decide) ?_
                        refine lv_istore (lv' := [(5, .int (zI (((b : Int)) - ((a : Int))))), (4, .int (zI (100 * (a : Int) + (b : Int)))), (11, .int (zI ((b : Int)))), (10, .int (zI ((a : Int)))), (9, .int (zI (100 * (a : Int) + (b : Int)))), (0, .ref (gA g_r37 0)), (1, .int (zI ((i : Int)))), (2, .int (zI (((sizeR G : Nat) : Int)))), (3, .int (zI ((sN S)))), (6, .int (w6)), (7, .int (zI (z7))), (8, .int (zI (z8)))]) hx hb dL_isNodeSo_144 hl (by decide) rfl (fun ls hl => ?_)
                        refine lv_iload hx hb dL_isNodeSo_146 (lv_at hl 3 rfl) ?_
                        refine lv_istore (lv' := [(12, .int (zI ((a : Int)))), (5, .int (zI (((b : Int)) - ((a : Int))))), (4, .int (zI (100 * (a : Int) + (b : Int)))), (11, .int (zI ((b : Int)))), (10, .int (zI ((a : Int)))), (9, .int (zI (100 * (a : Int) + (b : Int)))), (0, .ref (gA g_r37 0)), (1, .int (zI ((i : Int)))), (2, .int (zI (((sizeR G : Nat) : Int)))), (3, .int (zI ((sN S)))), (6, .int (w6)), (7, .int (zI (z7))), (8, .int (zI (z8)))]) hx hb dL_isNodeSo_148 hl (by decide) rfl (fun ls hl => ?_)
                        exact cut_150 (((b : Int) - ((a : Int)) : Int).toNat + 1) (((b : Int)) - ((a : Int))) (w6) (z7) ((a : Int)) (nLong_n hrg hrk h5 (by omega)) (by omega) (nPb_0 _ _) (h7) (by omega) _ _ hP hD hS _ (lv_sub hl [6, 7, 8, 9, 2, 1, 10, 11, 12, 5, 4, 3, 0] rfl)
                    · exact absurd c38 (by decide)
        exact cut_57 ((((sizeR G : Nat) : Int) - (0) : Int).toNat + 1) (F_r7) (g_r7) (-1) (0) ((zI 0)) (0) (0) (R_r7) ((q_r7.trans (q_r5.trans (q_r3.trans q_r1)))) (by omega) (nLast_0) (nLong_0) (nPl_0) (ct_n0) (by omega) _ _ hP hD hS _ (lv_sub hl [7, 8, 6, 5, 4, 3, 2, 1, 0] rfl)
      · exact absurd c8 (by omega)
