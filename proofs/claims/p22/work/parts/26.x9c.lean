set_option maxHeartbeats 4000000 in
set_option maxRecDepth 100000 in
theorem kX9_gatheredOf (l : Launch) (D : va_G) (k : Nat → ClassId) (L : List Nat) (f : Nat → va_E) (g : CG) (S : SA) (hR : cRep k L f g S) (hO : aOK S) (i : Nat) (hi : i < sC S) (n0 sz : Nat) : Met l yX9_gatheredOf wsX9_gatheredOf ({ frames := 4, cells := 0, slots := 0, locals := 89 } : Room) (va_Pc [.ref (gA g 0), .int (zI ((i : Int)))] (pPre D (tyL k) n0 (va_pl L f) sz)) (va_Qr (fun u : va_W × Nat => u.2 = gN g 1 i ∧ ∃ F : Nat → va_E, u.1 = va_pl L F ∧ cRep k L F (setRw g 2 (gatN S (gD g i) (gR g 2) 30)) S) (fun u a t => a = u.2 ∧ pB D (va_pl L f) sz u.1 t) (va_A (va_pl L f) sz)) 0 0 (va_A (va_pl L f) sz) := by
  refine Met.ofW (cc := cX9_gatheredOf) (maxL := 5) (ret := (some (.object "Regionry$RegionSet"))) (by decide) rfl ?_
  intro p e s m args below meth c s₁ B hml hv
  obtain ⟨rfl, hsz, hn9, hP, hC, hD0⟩ := hv
  have hK := hC.1
  have hNW := hC.2.1
  have hx := B.exec
  have hb := B.bytes
  have hrt := B.returns
  have hts := atoms_spec (ws := wsX9_gatheredOf) B.pre
  have hown : s.vm.findClass RX9 = some m.cls := findClass_of_methodNamed B.named
  have hlocks := B.notSynchronized
  subst hsz
  obtain ⟨A, hAd⟩ : ∃ A, A = va_A (va_pl L f) s.heap.size := ⟨_, rfl⟩
  have hD := hD0.self (sz := s.heap.size)
  rw [← hAd] at hD
  have hA : ∀ q : Nat, s.heap.size ≤ q → A q := fun q h => by rw [hAd]; exact Or.inr h
  have hAn : ∀ q : Nat, A q → n0 ≤ q := fun q h => by
    rw [hAd] at h
    rcases h with ⟨k9, e9, hk9⟩ | h
    · exact hD0.2 k9 _ hk9
    · exact Nat.le_trans hn9 h
  have hS : va_S A s.heap s.heap [] := va_S.rf
  have hi_X1 : ∀ w ∈ u_ws RX1 TX1 5, w ∈ wsX9_gatheredOf := by decide +kernel
  have hi_X2 : ∀ w ∈ u_ws RX2 TX2 5, w ∈ wsX9_gatheredOf := by decide +kernel
  have hi_X3 : ∀ w ∈ u_ws RX3 TX3 7, w ∈ wsX9_gatheredOf := by decide +kernel
  have hi_X4 : ∀ w ∈ u_ws RX4 TX4 6, w ∈ wsX9_gatheredOf := by decide +kernel
  have hi_X5 : ∀ w ∈ u_ws RX5 TX5 7, w ∈ wsX9_gatheredOf := by decide +kernel
  have hi_X7 : ∀ w ∈ u_ws RX7 TX7 7, w ∈ wsX9_gatheredOf := by decide +kernel
  have hi_X9 : ∀ w ∈ u_ws RX9 TX9 3, w ∈ wsX9_gatheredOf := by decide +kernel
  have hw_0 := hts (.fieldLink RX9 164 "Regionry$Expression" "gathered" "LRegionry$RegionSet;") (by decide +kernel)
  have hw_1 := hts (.fieldLink RX9 18 "Regionry" "made" "[LRegionry$Expression;") (by decide +kernel)
  have hw_2 := hts (.fieldLink RX9 12 "Regionry" "text" "LRegionry$Text;") (by decide +kernel)
  have hl := lv_entry ([.ref (gA g 0), .int (zI ((i : Int)))]) (n := 5) (Nat.le_of_ble_eq_true rfl)
  rw [lg_entry_eq]
  generalize (lg_sl ([.ref (gA g 0), .int (zI ((i : Int)))]) ++ List.replicate (5 - (lg_sl ([.ref (gA g 0), .int (zI ((i : Int)))])).length) Slot.unset).toArray = ls at hl ⊢
  have hl : lv_has ls 5 [(0, .ref (gA g 0)), (1, .int (zI ((i : Int))))] := hl
  obtain ⟨Q, hQ⟩ : ∃ Q, Q = MQ below (va_Qr (fun u : va_W × Nat => u.2 = gN g 1 i ∧ ∃ F : Nat → va_E, u.1 = va_pl L F ∧ cRep k L F (setRw g 2 (gatN S (gD g i) (gR g 2) 30)) S) (fun u a t => a = u.2 ∧ pB D (va_pl L f) s.heap.size u.1 t) (va_A (va_pl L f) s.heap.size)) ([.ref (gA g 0), .int (zI ((i : Int)))] : List Value).toArray s 0 0 (va_A (va_pl L f) s.heap.size) := ⟨_, rfl⟩
  rw [← hQ]
  obtain ⟨⟨a0, a1, a2, a3, a4⟩, aL, ao, aM, aE, aX⟩ := id hR
  have hn0 := hO.1
  have hc0 := hO.2.2.2.1
  refine lv_aload_n hx hb dX9_gatheredOf_0 rfl (lv_at hl 0 rfl) ?_
  refine lv_iload_n hx hb dX9_gatheredOf_1 rfl (lv_at hl 1 rfl) ?_
  refine va_csr (va_Run.run (va_runV (As := [.int (zI ((i : Int)))]) (rest := []) ⟨hx, hb, hml, hown, hts⟩ (kX9_expressionOf l D k L f g S hR hO i hi) (cwV 1 hts gX9_gatheredOf_X9_expressionOf rfl rfl rfl (by decide +kernel) ⟨Nat.le_of_ble_eq_true rfl, Nat.le_of_ble_eq_true rfl⟩) (rc_preV hC hP (pl_recv hK hP (aL 0 (by decide)) a0 (ci := 8) (q := (RX9, TX9, 3)) rfl)) rfl rfl hl.1 rfl (lv_room (Nat.le_of_ble_eq_true rfl)) dX9_gatheredOf_2 ⟨Nat.zero_le _, Nat.zero_le _⟩)) (fun r1 hr1 => ?_)
  subst hr1
  refine lv_astore_n (lv' := [(2, .ref (gN g 0 i)), (0, .ref (gA g 0)), (1, .int (zI ((i : Int))))]) hx hb dX9_gatheredOf_5 rfl hl (by decide) rfl (fun ls hl => ?_)
  refine zr_const hx hb dX9_gatheredOf_6 ?_
  refine lv_istore_n (lv' := [(3, .int (zI (0))), (2, .ref (gN g 0 i)), (0, .ref (gA g 0)), (1, .int (zI ((i : Int))))]) hx hb dX9_gatheredOf_7 rfl hl (by decide) rfl (fun ls hl => ?_)
  have cut_8 : ∀ (n9 : Nat) (m9 : Nat) (z3 : Int) (F : Nat → va_E), (m9 ≤ 30) → (z3 = m9) → (cRep k L F (setRw g 2 (gatN S (gD g i) (gR g 2) m9)) S) → 30 - z3 < (n9 : Int) → ∀ (H : Heap) (locs : List Loc), va_P D vwCl (va_pl L F) H → va_D A (va_pl L F) → va_S A s.heap H locs → ∀ (ls : Array Slot), lv_has ls 5 [(0, .ref (gA g 0)), (1, .int (zI ((i : Int)))), (2, .ref (gN g 0 i)), (3, .int (zI (z3)))] → W p l e (headSpec wsX9_gatheredOf ({ frames := 4, cells := 0, slots := 0, locals := 89 } : Room)).room s m ([.ref (gA g 0), .int (zI ((i : Int)))] : List Value).toArray below meth c H locs 0 0 Q (F0 m 8 ls []) := by
    intro n9
    induction n9 with
    | zero =>
      intro m9 z3 F hm hz3 hF hfu
      exact absurd hfu (by omega)
    | succ n9 ih_8 =>
      intro m9 z3 F hm hz3 hF hfu H locs hP hD hS ls hl
      refine lv_iload_n hx hb dX9_gatheredOf_8 rfl (lv_at hl 3 rfl) ?_
      refine zr_bipush hx hb dX9_gatheredOf_9 (by decide) ?_
      refine zr_icmp_ge (tgt := 50) hx hb dX9_gatheredOf_11 (by decide) (by omega) (by omega) (fun c2 => ?_) (fun c2 => ?_)
      · refine lv_aload_n hx hb dX9_gatheredOf_50 rfl (lv_at hl 2 rfl) ?_
        refine pl_getE (v := .ref (gN g 1 i)) hx hb hts hi_X1 hi_X2 hi_X3 hi_X4 hi_X5 hi_X7 hown hK hP (aE i hi).2.1.1 (show exAt F (gN g 0 i) (zI (sD S i)) (gD g i) (gN g 1 i) (gN g 3 i) from hF.ex hi) 2 (by decide) hw_0 rfl dX9_gatheredOf_51 ?_
        rw [hQ]
        exact pc_aret hx hb hrt hP (by rw [← hAd]; exact hD) (by rw [← hAd]; exact hS) (⟨rfl, F, rfl, by obtain rfl : m9 = 30 := (by omega); exact hF⟩) dX9_gatheredOf_54 hlocks
      · refine lv_aload_n hx hb dX9_gatheredOf_14 rfl (lv_at hl 0 rfl) ?_
        refine pl_get (ci := 8) (v := .ref (gA g 4)) (C := RX9) (T := TX9) (N := 3) hx hb hts hi_X9 hown hK hP (aL 0 (by decide)) (show F (gA g 0) = .inr (8, [.ref (gA g 1), .ref (gA g 4), .int (zI (sC S : Int))]) from hF.1.1) rfl 1 (by decide) hw_1 (fun _ h9 => h9) rfl dX9_gatheredOf_15 ?_
        refine lv_iload_n hx hb dX9_gatheredOf_18 rfl (lv_at hl 3 rfl) ?_
        refine pl_aldq hx hb hK hP (aL 4 (by decide)) 2 (show F (gA g 4) = .inl (k 2, 30, .inr (.inr (.inr (.inr (gE g))))) from hF.1.2.2.2.2) rfl (m9) (by omega) (by omega) (by decide) dX9_gatheredOf_19 ?_
        rcases Nat.lt_or_ge m9 (sC S) with hmc | hmc
        · rw [(aE m9 hmc).1]
          refine lv_astore (lv' := [(4, .ref (gN g 0 m9)), (0, .ref (gA g 0)), (1, .int (zI ((i : Int)))), (2, .ref (gN g 0 i)), (3, .int (zI (z3)))]) hx hb dX9_gatheredOf_20 hl (by decide) rfl (fun ls hl => ?_)
          refine lv_aload hx hb dX9_gatheredOf_22 (lv_at hl 0 rfl) ?_
          refine lv_ifnull hx hb dX9_gatheredOf_24 ?_
          refine lv_aload_n hx hb dX9_gatheredOf_27 rfl (lv_at hl 3 rfl) ?_
          refine lv_iload_n hx hb dX9_gatheredOf_28 rfl (lv_at hl 4 rfl) ?_
          have jn : ∀ b9 : Bool, b9 = bt (gD g i) m9 → W p l e (headSpec wsX9_gatheredOf ({ frames := 4, cells := 0, slots := 0, locals := 89 } : Room)).room s m ([.ref (gA g 0), .int (zI ((i : Int)))] : List Value).toArray below meth c H locs 0 0 Q (F0 m 32 ls [.int (bI (b9))]) := by
            intro b9 hb9
            refine zr_ifb_eq (tgt := 44) hx hb dX9_gatheredOf_32 (by decide) (fun c3 => ?_) (fun c3 => ?_)
            · refine zr_iinc (k := 4) (lv' := [(3, .int (zI (z3 + 1))), (4, .ref (gN g 0 m9)), (0, .ref (gA g 0)), (1, .int (zI ((i : Int)))), (2, .ref (gN g 0 i))]) hx hb dX9_gatheredOf_44 hl rfl (by decide) rfl (fun ls hl => ?_)
              refine lv_goto (tgt := 8) hx hb dX9_gatheredOf_47 (by decide) ?_
              exact ih_8 (m9 + 1) (z3 + 1) (F) (by omega) (by omega) (by first | (rw [gatN_no (fun q => absurd q.1 (by omega))]; exact hF) | (rw [gatN_no (fun q => by rw [← hb9] at q; simp_all)]; exact hF) | (rw [gatN_yes hmc hbt]; exact hF.set hmc (Or.inl rfl) _)) (by omega) _ _ hP hD hS _ (lv_sub hl [2, 3, 4, 0] rfl)
            · refine lv_aload hx hb dX9_gatheredOf_35 (lv_at hl 0 rfl) ?_
              refine lv_aload_n hx hb dX9_gatheredOf_37 rfl (lv_at hl 1 rfl) ?_
              refine pl_get (ci := 8) (v := .ref (gA g 1)) (C := RX9) (T := TX9) (N := 3) hx hb hts hi_X9 hown hK hP (aL 0 (by decide)) (show F (gA g 0) = .inr (8, [.ref (gA g 1), .ref (gA g 4), .int (zI (sC S : Int))]) from hF.1.1) rfl 0 (by decide) hw_2 (fun _ h9 => h9) rfl dX9_gatheredOf_38 ?_
              have hbt : bt (gD g i) m9 = true := hb9.symm.trans (by assumption)
              have e9 := (hF.2.2.2.2.1 m9 hmc).2.1.2
              rcases (show exK (sW S m9) = 0 ∨ exK (sW S m9) = 1 ∨ exK (sW S m9) = 2 ∨ exK (sW S m9) = 3 ∨ exK (sW S m9) = 4 ∨ exK (sW S m9) = 6 by have h8 := exK_c (sW S m9); unfold exC at h8; omega) with hc9 | hc9 | hc9 | hc9 | hc9 | hc9
              · rw [hc9] at e9
                refine pc_callv (va_runU (As := [.ref (gA g 1)]) (rest := []) ⟨hx, hb, hml, hown, hts⟩ (kG1 l D hF hO hmc (exK_i0 hc9) n0 _) (va_cwA 1 hts gX9_gatheredOf_X1_gather_u160X1 rfl rfl rfl (hNW (.declares ⟨"Regionry$Expression", "gather", "(LRegionry$Text;)V"⟩) (by decide +kernel)) (by decide +kernel) ⟨Nat.le_of_ble_eq_true rfl, Nat.le_of_ble_eq_true rfl⟩) (pc_preV hC hP (Nat.le_trans hn9 hS.1) hD hAn (pl_recv hK hP (hF.2.2.2.2.1 m9 hmc).2.1.1 e9 (ci := 0) (q := (RX1, TX1, 5)) rfl)) rfl rfl hl.1 rfl (lv_room (Nat.le_of_ble_eq_true rfl)) dX9_gatheredOf_41 ⟨Nat.le_of_ble_eq_true rfl, Nat.le_of_ble_eq_true rfl⟩) hD hS hA (fun u9 H locs hu9 hP hD hS hz9 => ?_)
                subst hu9
                refine zr_iinc (k := 4) (lv' := [(3, .int (zI (z3 + 1))), (4, .ref (gN g 0 m9)), (0, .ref (gA g 0)), (1, .int (zI ((i : Int)))), (2, .ref (gN g 0 i))]) hx hb dX9_gatheredOf_44 hl rfl (by decide) rfl (fun ls hl => ?_)
                refine lv_goto (tgt := 8) hx hb dX9_gatheredOf_47 (by decide) ?_
                exact ih_8 (m9 + 1) (z3 + 1) (va_up F (gN g 2 m9) (.inl (k 0, 24, .inl (gatF S (gatN S (gD g i) (gR g 2) m9) m9)))) (by omega) (by omega) (by first | (rw [gatN_no (fun q => absurd q.1 (by omega))]; exact hF) | (rw [gatN_no (fun q => by rw [← hb9] at q; simp_all)]; exact hF) | (rw [gatN_yes hmc hbt]; exact hF.set hmc (Or.inl rfl) _)) (by omega) _ _ hP hD hS _ (lv_sub hl [2, 3, 4, 0] rfl)
              · rw [hc9] at e9
                refine pc_callv (va_runU (As := [.ref (gA g 1)]) (rest := []) ⟨hx, hb, hml, hown, hts⟩ (kG2 l D hF hO hmc (exK_i1 hc9) n0 _) (va_cwA 1 hts gX9_gatheredOf_X2_gather_u160X2 rfl rfl rfl (hNW (.declares ⟨"Regionry$Expression", "gather", "(LRegionry$Text;)V"⟩) (by decide +kernel)) (by decide +kernel) ⟨Nat.le_of_ble_eq_true rfl, Nat.le_of_ble_eq_true rfl⟩) (pc_preV hC hP (Nat.le_trans hn9 hS.1) hD hAn (pl_recv hK hP (hF.2.2.2.2.1 m9 hmc).2.1.1 e9 (ci := 1) (q := (RX2, TX2, 5)) rfl)) rfl rfl hl.1 rfl (lv_room (Nat.le_of_ble_eq_true rfl)) dX9_gatheredOf_41 ⟨Nat.le_of_ble_eq_true rfl, Nat.le_of_ble_eq_true rfl⟩) hD hS hA (fun u9 H locs hu9 hP hD hS hz9 => ?_)
                subst hu9
                refine zr_iinc (k := 4) (lv' := [(3, .int (zI (z3 + 1))), (4, .ref (gN g 0 m9)), (0, .ref (gA g 0)), (1, .int (zI ((i : Int)))), (2, .ref (gN g 0 i))]) hx hb dX9_gatheredOf_44 hl rfl (by decide) rfl (fun ls hl => ?_)
                refine lv_goto (tgt := 8) hx hb dX9_gatheredOf_47 (by decide) ?_
                exact ih_8 (m9 + 1) (z3 + 1) (va_up F (gN g 2 m9) (.inl (k 0, 24, .inl (gatF S (gatN S (gD g i) (gR g 2) m9) m9)))) (by omega) (by omega) (by first | (rw [gatN_no (fun q => absurd q.1 (by omega))]; exact hF) | (rw [gatN_no (fun q => by rw [← hb9] at q; simp_all)]; exact hF) | (rw [gatN_yes hmc hbt]; exact hF.set hmc (Or.inl rfl) _)) (by omega) _ _ hP hD hS _ (lv_sub hl [2, 3, 4, 0] rfl)
              · rw [hc9] at e9
                refine pc_callv (va_runU (As := [.ref (gA g 1)]) (rest := []) ⟨hx, hb, hml, hown, hts⟩ (kG3 l D hF hO hmc (exK_i2 hc9) n0 _) (va_cwA 1 hts gX9_gatheredOf_X3_gather_u160X3 rfl rfl rfl (hNW (.declares ⟨"Regionry$Expression", "gather", "(LRegionry$Text;)V"⟩) (by decide +kernel)) (by decide +kernel) ⟨Nat.le_of_ble_eq_true rfl, Nat.le_of_ble_eq_true rfl⟩) (pc_preV hC hP (Nat.le_trans hn9 hS.1) hD hAn (pl_recv hK hP (hF.2.2.2.2.1 m9 hmc).2.1.1 e9 (ci := 2) (q := (RX3, TX3, 7)) rfl)) rfl rfl hl.1 rfl (lv_room (Nat.le_of_ble_eq_true rfl)) dX9_gatheredOf_41 ⟨Nat.le_of_ble_eq_true rfl, Nat.le_of_ble_eq_true rfl⟩) hD hS hA (fun u9 H locs hu9 hP hD hS hz9 => ?_)
                subst hu9
                refine zr_iinc (k := 4) (lv' := [(3, .int (zI (z3 + 1))), (4, .ref (gN g 0 m9)), (0, .ref (gA g 0)), (1, .int (zI ((i : Int)))), (2, .ref (gN g 0 i))]) hx hb dX9_gatheredOf_44 hl rfl (by decide) rfl (fun ls hl => ?_)
                refine lv_goto (tgt := 8) hx hb dX9_gatheredOf_47 (by decide) ?_
                exact ih_8 (m9 + 1) (z3 + 1) (va_up F (gN g 2 m9) (.inl (k 0, 24, .inl (gatF S (gatN S (gD g i) (gR g 2) m9) m9)))) (by omega) (by omega) (by first | (rw [gatN_no (fun q => absurd q.1 (by omega))]; exact hF) | (rw [gatN_no (fun q => by rw [← hb9] at q; simp_all)]; exact hF) | (rw [gatN_yes hmc hbt]; exact hF.set hmc (Or.inl rfl) _)) (by omega) _ _ hP hD hS _ (lv_sub hl [2, 3, 4, 0] rfl)
              · rw [hc9] at e9
                refine pc_callv (va_runU (As := [.ref (gA g 1)]) (rest := []) ⟨hx, hb, hml, hown, hts⟩ (kG4 l D hF hO hmc (exK_i3 hc9) n0 _) (va_cwA 1 hts gX9_gatheredOf_X4_gather_u160X4 rfl rfl rfl (hNW (.declares ⟨"Regionry$Expression", "gather", "(LRegionry$Text;)V"⟩) (by decide +kernel)) (by decide +kernel) ⟨Nat.le_of_ble_eq_true rfl, Nat.le_of_ble_eq_true rfl⟩) (pc_preV hC hP (Nat.le_trans hn9 hS.1) hD hAn (pl_recv hK hP (hF.2.2.2.2.1 m9 hmc).2.1.1 e9 (ci := 3) (q := (RX4, TX4, 6)) rfl)) rfl rfl hl.1 rfl (lv_room (Nat.le_of_ble_eq_true rfl)) dX9_gatheredOf_41 ⟨Nat.le_of_ble_eq_true rfl, Nat.le_of_ble_eq_true rfl⟩) hD hS hA (fun u9 H locs hu9 hP hD hS hz9 => ?_)
                subst hu9
                refine zr_iinc (k := 4) (lv' := [(3, .int (zI (z3 + 1))), (4, .ref (gN g 0 m9)), (0, .ref (gA g 0)), (1, .int (zI ((i : Int)))), (2, .ref (gN g 0 i))]) hx hb dX9_gatheredOf_44 hl rfl (by decide) rfl (fun ls hl => ?_)
                refine lv_goto (tgt := 8) hx hb dX9_gatheredOf_47 (by decide) ?_
                exact ih_8 (m9 + 1) (z3 + 1) (va_up F (gN g 2 m9) (.inl (k 0, 24, .inl (gatF S (gatN S (gD g i) (gR g 2) m9) m9)))) (by omega) (by omega) (by first | (rw [gatN_no (fun q => absurd q.1 (by omega))]; exact hF) | (rw [gatN_no (fun q => by rw [← hb9] at q; simp_all)]; exact hF) | (rw [gatN_yes hmc hbt]; exact hF.set hmc (Or.inl rfl) _)) (by omega) _ _ hP hD hS _ (lv_sub hl [2, 3, 4, 0] rfl)
              · rw [hc9] at e9
                refine pc_callv (va_runU (As := [.ref (gA g 1)]) (rest := []) ⟨hx, hb, hml, hown, hts⟩ (kG5 l D hF hO hmc (exK_i4 (hO.2.2.2.2 m9 hmc).1 hc9) n0 _) (va_cwA 1 hts gX9_gatheredOf_X5_gather_u160X5 rfl rfl rfl (hNW (.declares ⟨"Regionry$Expression", "gather", "(LRegionry$Text;)V"⟩) (by decide +kernel)) (by decide +kernel) ⟨Nat.le_of_ble_eq_true rfl, Nat.le_of_ble_eq_true rfl⟩) (pc_preV hC hP (Nat.le_trans hn9 hS.1) hD hAn (pl_recv hK hP (hF.2.2.2.2.1 m9 hmc).2.1.1 e9 (ci := 4) (q := (RX5, TX5, 7)) rfl)) rfl rfl hl.1 rfl (lv_room (Nat.le_of_ble_eq_true rfl)) dX9_gatheredOf_41 ⟨Nat.le_of_ble_eq_true rfl, Nat.le_of_ble_eq_true rfl⟩) hD hS hA (fun u9 H locs hu9 hP hD hS hz9 => ?_)
                subst hu9
                refine zr_iinc (k := 4) (lv' := [(3, .int (zI (z3 + 1))), (4, .ref (gN g 0 m9)), (0, .ref (gA g 0)), (1, .int (zI ((i : Int)))), (2, .ref (gN g 0 i))]) hx hb dX9_gatheredOf_44 hl rfl (by decide) rfl (fun ls hl => ?_)
                refine lv_goto (tgt := 8) hx hb dX9_gatheredOf_47 (by decide) ?_
                exact ih_8 (m9 + 1) (z3 + 1) (va_up F (gN g 2 m9) (.inl (k 0, 24, .inl (gatF S (gatN S (gD g i) (gR g 2) m9) m9)))) (by omega) (by omega) (by first | (rw [gatN_no (fun q => absurd q.1 (by omega))]; exact hF) | (rw [gatN_no (fun q => by rw [← hb9] at q; simp_all)]; exact hF) | (rw [gatN_yes hmc hbt]; exact hF.set hmc (Or.inl rfl) _)) (by omega) _ _ hP hD hS _ (lv_sub hl [2, 3, 4, 0] rfl)
              · rw [hc9] at e9
                refine pc_callv (va_runU (As := [.ref (gA g 1)]) (rest := []) ⟨hx, hb, hml, hown, hts⟩ (kG7 l D hF hO hmc (exK_i6 hc9) n0 _) (va_cwA 1 hts gX9_gatheredOf_X7_gather_u160X7 rfl rfl rfl (hNW (.declares ⟨"Regionry$Expression", "gather", "(LRegionry$Text;)V"⟩) (by decide +kernel)) (by decide +kernel) ⟨Nat.le_of_ble_eq_true rfl, Nat.le_of_ble_eq_true rfl⟩) (pc_preV hC hP (Nat.le_trans hn9 hS.1) hD hAn (pl_recv hK hP (hF.2.2.2.2.1 m9 hmc).2.1.1 e9 (ci := 6) (q := (RX7, TX7, 7)) rfl)) rfl rfl hl.1 rfl (lv_room (Nat.le_of_ble_eq_true rfl)) dX9_gatheredOf_41 ⟨Nat.le_of_ble_eq_true rfl, Nat.le_of_ble_eq_true rfl⟩) hD hS hA (fun u9 H locs hu9 hP hD hS hz9 => ?_)
                subst hu9
                refine zr_iinc (k := 4) (lv' := [(3, .int (zI (z3 + 1))), (4, .ref (gN g 0 m9)), (0, .ref (gA g 0)), (1, .int (zI ((i : Int)))), (2, .ref (gN g 0 i))]) hx hb dX9_gatheredOf_44 hl rfl (by decide) rfl (fun ls hl => ?_)
                refine lv_goto (tgt := 8) hx hb dX9_gatheredOf_47 (by decide) ?_
                exact ih_8 (m9 + 1) (z3 + 1) (va_up F (gN g 2 m9) (.inl (k 0, 24, .inl (gatF S (gatN S (gD g i) (gR g 2) m9) m9)))) (by omega) (by omega) (by first | (rw [gatN_no (fun q => absurd q.1 (by omega))]; exact hF) | (rw [gatN_no (fun q => by rw [← hb9] at q; simp_all)]; exact hF) | (rw [gatN_yes hmc hbt]; exact hF.set hmc (Or.inl rfl) _)) (by omega) _ _ hP hD hS _ (lv_sub hl [2, 3, 4, 0] rfl)
          have e9 := (hF.2.2.2.2.1 i hi).2.1.2
          rcases (show exK (sW S i) = 0 ∨ exK (sW S i) = 1 ∨ exK (sW S i) = 2 ∨ exK (sW S i) = 3 ∨ exK (sW S i) = 4 ∨ exK (sW S i) = 6 by have h8 := exK_c (sW S i); unfold exC at h8; omega) with hc9 | hc9 | hc9 | hc9 | hc9 | hc9
          · rw [hc9] at e9
            refine vp_callSi (va_Run.run (va_runU (As := [.int (zI (z3))]) (rest := []) ⟨hx, hb, hml, hown, hts⟩ (kX0_needs l D k L F (gN g 0 i) (zI (sD S i)) (gD g i) (gN g 1 i) (gN g 3 i) (aE i hi).2.1.1 (show exAt F (gN g 0 i) (zI (sD S i)) (gD g i) (gN g 1 i) (gN g 3 i) from hF.ex hi) z3 (by omega)) (va_cwU 1 hts gX9_gatheredOf_X0_needs_u157X1 rfl rfl rfl rfl (by decide +kernel) ⟨Nat.le_of_ble_eq_true rfl, Nat.le_of_ble_eq_true rfl⟩) (rc_preV hC hP (pl_recv hK hP (hF.2.2.2.2.1 i hi).2.1.1 e9 (ci := 0) (q := (RX1, TX1, 5)) rfl)) rfl rfl hl.1 rfl (lv_room (Nat.le_of_ble_eq_true rfl)) dX9_gatheredOf_29 ⟨Nat.le_of_ble_eq_true rfl, Nat.le_of_ble_eq_true rfl⟩)) (fun r9 hr9 => ?_)
            subst hr9
            exact jn _ (congrArg (bt (gD g i)) (show (z3).toNat = m9 by omega))
          · rw [hc9] at e9
            refine vp_callSi (va_Run.run (va_runU (As := [.int (zI (z3))]) (rest := []) ⟨hx, hb, hml, hown, hts⟩ (kX0_needs l D k L F (gN g 0 i) (zI (sD S i)) (gD g i) (gN g 1 i) (gN g 3 i) (aE i hi).2.1.1 (show exAt F (gN g 0 i) (zI (sD S i)) (gD g i) (gN g 1 i) (gN g 3 i) from hF.ex hi) z3 (by omega)) (va_cwU 1 hts gX9_gatheredOf_X0_needs_u157X2 rfl rfl rfl rfl (by decide +kernel) ⟨Nat.le_of_ble_eq_true rfl, Nat.le_of_ble_eq_true rfl⟩) (rc_preV hC hP (pl_recv hK hP (hF.2.2.2.2.1 i hi).2.1.1 e9 (ci := 1) (q := (RX2, TX2, 5)) rfl)) rfl rfl hl.1 rfl (lv_room (Nat.le_of_ble_eq_true rfl)) dX9_gatheredOf_29 ⟨Nat.le_of_ble_eq_true rfl, Nat.le_of_ble_eq_true rfl⟩)) (fun r9 hr9 => ?_)
            subst hr9
            exact jn _ (congrArg (bt (gD g i)) (show (z3).toNat = m9 by omega))
          · rw [hc9] at e9
            refine vp_callSi (va_Run.run (va_runU (As := [.int (zI (z3))]) (rest := []) ⟨hx, hb, hml, hown, hts⟩ (kX0_needs l D k L F (gN g 0 i) (zI (sD S i)) (gD g i) (gN g 1 i) (gN g 3 i) (aE i hi).2.1.1 (show exAt F (gN g 0 i) (zI (sD S i)) (gD g i) (gN g 1 i) (gN g 3 i) from hF.ex hi) z3 (by omega)) (va_cwU 1 hts gX9_gatheredOf_X0_needs_u157X3 rfl rfl rfl rfl (by decide +kernel) ⟨Nat.le_of_ble_eq_true rfl, Nat.le_of_ble_eq_true rfl⟩) (rc_preV hC hP (pl_recv hK hP (hF.2.2.2.2.1 i hi).2.1.1 e9 (ci := 2) (q := (RX3, TX3, 7)) rfl)) rfl rfl hl.1 rfl (lv_room (Nat.le_of_ble_eq_true rfl)) dX9_gatheredOf_29 ⟨Nat.le_of_ble_eq_true rfl, Nat.le_of_ble_eq_true rfl⟩)) (fun r9 hr9 => ?_)
            subst hr9
            exact jn _ (congrArg (bt (gD g i)) (show (z3).toNat = m9 by omega))
          · rw [hc9] at e9
            refine vp_callSi (va_Run.run (va_runU (As := [.int (zI (z3))]) (rest := []) ⟨hx, hb, hml, hown, hts⟩ (kX0_needs l D k L F (gN g 0 i) (zI (sD S i)) (gD g i) (gN g 1 i) (gN g 3 i) (aE i hi).2.1.1 (show exAt F (gN g 0 i) (zI (sD S i)) (gD g i) (gN g 1 i) (gN g 3 i) from hF.ex hi) z3 (by omega)) (va_cwU 1 hts gX9_gatheredOf_X0_needs_u157X4 rfl rfl rfl rfl (by decide +kernel) ⟨Nat.le_of_ble_eq_true rfl, Nat.le_of_ble_eq_true rfl⟩) (rc_preV hC hP (pl_recv hK hP (hF.2.2.2.2.1 i hi).2.1.1 e9 (ci := 3) (q := (RX4, TX4, 6)) rfl)) rfl rfl hl.1 rfl (lv_room (Nat.le_of_ble_eq_true rfl)) dX9_gatheredOf_29 ⟨Nat.le_of_ble_eq_true rfl, Nat.le_of_ble_eq_true rfl⟩)) (fun r9 hr9 => ?_)
            subst hr9
            exact jn _ (congrArg (bt (gD g i)) (show (z3).toNat = m9 by omega))
          · rw [hc9] at e9
            refine vp_callSi (va_Run.run (va_runU (As := [.int (zI (z3))]) (rest := []) ⟨hx, hb, hml, hown, hts⟩ (kX0_needs l D k L F (gN g 0 i) (zI (sD S i)) (gD g i) (gN g 1 i) (gN g 3 i) (aE i hi).2.1.1 (show exAt F (gN g 0 i) (zI (sD S i)) (gD g i) (gN g 1 i) (gN g 3 i) from hF.ex hi) z3 (by omega)) (va_cwU 1 hts gX9_gatheredOf_X0_needs_u157X5 rfl rfl rfl rfl (by decide +kernel) ⟨Nat.le_of_ble_eq_true rfl, Nat.le_of_ble_eq_true rfl⟩) (rc_preV hC hP (pl_recv hK hP (hF.2.2.2.2.1 i hi).2.1.1 e9 (ci := 4) (q := (RX5, TX5, 7)) rfl)) rfl rfl hl.1 rfl (lv_room (Nat.le_of_ble_eq_true rfl)) dX9_gatheredOf_29 ⟨Nat.le_of_ble_eq_true rfl, Nat.le_of_ble_eq_true rfl⟩)) (fun r9 hr9 => ?_)
            subst hr9
            exact jn _ (congrArg (bt (gD g i)) (show (z3).toNat = m9 by omega))
          · rw [hc9] at e9
            refine vp_callSi (va_Run.run (va_runU (As := [.int (zI (z3))]) (rest := []) ⟨hx, hb, hml, hown, hts⟩ (kX0_needs l D k L F (gN g 0 i) (zI (sD S i)) (gD g i) (gN g 1 i) (gN g 3 i) (aE i hi).2.1.1 (show exAt F (gN g 0 i) (zI (sD S i)) (gD g i) (gN g 1 i) (gN g 3 i) from hF.ex hi) z3 (by omega)) (va_cwU 1 hts gX9_gatheredOf_X0_needs_u157X7 rfl rfl rfl rfl (by decide +kernel) ⟨Nat.le_of_ble_eq_true rfl, Nat.le_of_ble_eq_true rfl⟩) (rc_preV hC hP (pl_recv hK hP (hF.2.2.2.2.1 i hi).2.1.1 e9 (ci := 6) (q := (RX7, TX7, 7)) rfl)) rfl rfl hl.1 rfl (lv_room (Nat.le_of_ble_eq_true rfl)) dX9_gatheredOf_29 ⟨Nat.le_of_ble_eq_true rfl, Nat.le_of_ble_eq_true rfl⟩)) (fun r9 hr9 => ?_)
            subst hr9
            exact jn _ (congrArg (bt (gD g i)) (show (z3).toNat = m9 by omega))
        · rw [aX m9 (by omega) (by omega)]
          refine lv_astoreN (lv' := [(4, .null), (0, .ref (gA g 0)), (1, .int (zI ((i : Int)))), (2, .ref (gN g 0 i)), (3, .int (zI (z3)))]) hx hb dX9_gatheredOf_20 hl (by decide) rfl (fun ls hl => ?_)
          refine lv_aloadN hx hb dX9_gatheredOf_22 (lv_at hl 0 rfl) ?_
          refine lv_ifnullN (tgt := 44) hx hb dX9_gatheredOf_24 (by decide) ?_
          refine zr_iinc (k := 4) (lv' := [(3, .int (zI (z3 + 1))), (4, .null), (0, .ref (gA g 0)), (1, .int (zI ((i : Int)))), (2, .ref (gN g 0 i))]) hx hb dX9_gatheredOf_44 hl rfl (by decide) rfl (fun ls hl => ?_)
          refine lv_goto (tgt := 8) hx hb dX9_gatheredOf_47 (by decide) ?_
          exact ih_8 (m9 + 1) (z3 + 1) (F) (by omega) (by omega) (by first | (rw [gatN_no (fun q => absurd q.1 (by omega))]; exact hF) | (rw [gatN_no (fun q => by rw [← hb9] at q; simp_all)]; exact hF) | (rw [gatN_yes hmc hbt]; exact hF.set hmc (Or.inl rfl) _)) (by omega) _ _ hP hD hS _ (lv_sub hl [2, 3, 4, 0] rfl)
  exact cut_8 ((30 - (0) : Int).toNat + 1) (0) (0) (f) (by omega) (by omega) (by show cRep k L f (setRw g 2 (gR g 2)) S; rw [setRw_id]; exact hR) (by omega) _ _ hP hD hS _ (lv_sub hl [2, 3, 1, 0] rfl)

set_option maxHeartbeats 4000000 in
set_option maxRecDepth 100000 in
theorem kX9_askedOf (l : Launch) (D : va_G) (k : Nat → ClassId) (L : List Nat) (f : Nat → va_E) (g : CG) (S : SA) (hR : cRep k L f g S) (hO : aOK S) (i : Nat) (hi : i < sC S) (n0 sz : Nat) : Met l yX9_askedOf wsX9_askedOf ({ frames := 6, cells := 0, slots := 0, locals := 144 } : Room) (va_Pc [.ref (gA g 0), .int (zI ((i : Int)))] (pPre D (tyL k) n0 (va_pl L f) sz)) (va_Qr (fun u : va_W × Nat => u.2 = gN g 3 i ∧ ∃ (F : Nat → va_E) (X J : Nat → Nat → Int32), u.1 = va_pl L F ∧ cRep k L F (setRw (setRw g 6 J) 4 X) S ∧ askI S (gD g i) 30 X J) (fun u a t => a = u.2 ∧ pB D (va_pl L f) sz u.1 t) (va_A (va_pl L f) sz)) 0 0 (va_A (va_pl L f) sz) := by
  refine Met.ofW (cc := cX9_askedOf) (maxL := 5) (ret := (some (.object "Regionry$RegionSet"))) (by decide) rfl ?_
  intro p e s m args below meth c s₁ B hml hv
  obtain ⟨rfl, hsz, hn9, hP, hC, hD0⟩ := hv
  have hK := hC.1
  have hNW := hC.2.1
  have hx := B.exec
  have hb := B.bytes
  have hrt := B.returns
  have hts := atoms_spec (ws := wsX9_askedOf) B.pre
  have hown : s.vm.findClass RX9 = some m.cls := findClass_of_methodNamed B.named
  have hlocks := B.notSynchronized
  subst hsz
  obtain ⟨A, hAd⟩ : ∃ A, A = va_A (va_pl L f) s.heap.size := ⟨_, rfl⟩
  have hD := hD0.self (sz := s.heap.size)
  rw [← hAd] at hD
  have hA : ∀ q : Nat, s.heap.size ≤ q → A q := fun q h => by rw [hAd]; exact Or.inr h
  have hAn : ∀ q : Nat, A q → n0 ≤ q := fun q h => by
    rw [hAd] at h
    rcases h with ⟨k9, e9, hk9⟩ | h
    · exact hD0.2 k9 _ hk9
    · exact Nat.le_trans hn9 h
  have hS : va_S A s.heap s.heap [] := va_S.rf
  have hi_X1 : ∀ w ∈ u_ws RX1 TX1 5, w ∈ wsX9_askedOf := by decide +kernel
  have hi_X2 : ∀ w ∈ u_ws RX2 TX2 5, w ∈ wsX9_askedOf := by decide +kernel
  have hi_X3 : ∀ w ∈ u_ws RX3 TX3 7, w ∈ wsX9_askedOf := by decide +kernel
  have hi_X4 : ∀ w ∈ u_ws RX4 TX4 6, w ∈ wsX9_askedOf := by decide +kernel
  have hi_X5 : ∀ w ∈ u_ws RX5 TX5 7, w ∈ wsX9_askedOf := by decide +kernel
  have hi_X7 : ∀ w ∈ u_ws RX7 TX7 7, w ∈ wsX9_askedOf := by decide +kernel
  have hi_X9 : ∀ w ∈ u_ws RX9 TX9 3, w ∈ wsX9_askedOf := by decide +kernel
  have hw_0 := hts (.fieldLink RX9 171 "Regionry$Expression" "asked" "LRegionry$RegionSet;") (by decide +kernel)
  have hw_1 := hts (.fieldLink RX9 18 "Regionry" "made" "[LRegionry$Expression;") (by decide +kernel)
  have hw_2 := hts (.fieldLink RX9 12 "Regionry" "text" "LRegionry$Text;") (by decide +kernel)
  have hl := lv_entry ([.ref (gA g 0), .int (zI ((i : Int)))]) (n := 5) (Nat.le_of_ble_eq_true rfl)
  rw [lg_entry_eq]
  generalize (lg_sl ([.ref (gA g 0), .int (zI ((i : Int)))]) ++ List.replicate (5 - (lg_sl ([.ref (gA g 0), .int (zI ((i : Int)))])).length) Slot.unset).toArray = ls at hl ⊢
  have hl : lv_has ls 5 [(0, .ref (gA g 0)), (1, .int (zI ((i : Int))))] := hl
  obtain ⟨Q, hQ⟩ : ∃ Q, Q = MQ below (va_Qr (fun u : va_W × Nat => u.2 = gN g 3 i ∧ ∃ (F : Nat → va_E) (X J : Nat → Nat → Int32), u.1 = va_pl L F ∧ cRep k L F (setRw (setRw g 6 J) 4 X) S ∧ askI S (gD g i) 30 X J) (fun u a t => a = u.2 ∧ pB D (va_pl L f) s.heap.size u.1 t) (va_A (va_pl L f) s.heap.size)) ([.ref (gA g 0), .int (zI ((i : Int)))] : List Value).toArray s 0 0 (va_A (va_pl L f) s.heap.size) := ⟨_, rfl⟩
  rw [← hQ]
  obtain ⟨⟨a0, a1, a2, a3, a4⟩, aL, ao, aM, aE, aX⟩ := id hR
  have hn0 := hO.1
  have hc0 := hO.2.2.2.1
  refine lv_aload_n hx hb dX9_askedOf_0 rfl (lv_at hl 0 rfl) ?_
  refine lv_iload_n hx hb dX9_askedOf_1 rfl (lv_at hl 1 rfl) ?_
  refine va_csr (va_Run.run (va_runV (As := [.int (zI ((i : Int)))]) (rest := []) ⟨hx, hb, hml, hown, hts⟩ (kX9_expressionOf l D k L f g S hR hO i hi) (cwV 1 hts gX9_askedOf_X9_expressionOf rfl rfl rfl (by decide +kernel) ⟨Nat.le_of_ble_eq_true rfl, Nat.le_of_ble_eq_true rfl⟩) (rc_preV hC hP (pl_recv hK hP (aL 0 (by decide)) a0 (ci := 8) (q := (RX9, TX9, 3)) rfl)) rfl rfl hl.1 rfl (lv_room (Nat.le_of_ble_eq_true rfl)) dX9_askedOf_2 ⟨Nat.zero_le _, Nat.zero_le _⟩)) (fun r1 hr1 => ?_)
  subst hr1
  refine lv_astore_n (lv' := [(2, .ref (gN g 0 i)), (0, .ref (gA g 0)), (1, .int (zI ((i : Int))))]) hx hb dX9_askedOf_5 rfl hl (by decide) rfl (fun ls hl => ?_)
  refine zr_const hx hb dX9_askedOf_6 ?_
  refine lv_istore_n (lv' := [(3, .int (zI (0))), (2, .ref (gN g 0 i)), (0, .ref (gA g 0)), (1, .int (zI ((i : Int))))]) hx hb dX9_askedOf_7 rfl hl (by decide) rfl (fun ls hl => ?_)
  have cut_8 : ∀ (n9 : Nat) (m9 : Nat) (z3 : Int) (F : Nat → va_E) (X : Nat → Nat → Int32) (J : Nat → Nat → Int32), (m9 ≤ 30) → (z3 = m9) → (cRep k L F (setRw (setRw g 6 J) 4 X) S) → (askI S (gD g i) m9 X J) → 30 - z3 < (n9 : Int) → ∀ (H : Heap) (locs : List Loc), va_P D vwCl (va_pl L F) H → va_D A (va_pl L F) → va_S A s.heap H locs → ∀ (ls : Array Slot), lv_has ls 5 [(0, .ref (gA g 0)), (1, .int (zI ((i : Int)))), (2, .ref (gN g 0 i)), (3, .int (zI (z3)))] → W p l e (headSpec wsX9_askedOf ({ frames := 6, cells := 0, slots := 0, locals := 144 } : Room)).room s m ([.ref (gA g 0), .int (zI ((i : Int)))] : List Value).toArray below meth c H locs 0 0 Q (F0 m 8 ls []) := by
    intro n9
    induction n9 with
    | zero =>
      intro m9 z3 F X J hm hz3 hF hX hfu
      exact absurd hfu (by omega)
    | succ n9 ih_8 =>
      intro m9 z3 F X J hm hz3 hF hX hfu H locs hP hD hS ls hl
      refine lv_iload_n hx hb dX9_askedOf_8 rfl (lv_at hl 3 rfl) ?_
      refine zr_bipush hx hb dX9_askedOf_9 (by decide) ?_
      refine zr_icmp_ge (tgt := 50) hx hb dX9_askedOf_11 (by decide) (by omega) (by omega) (fun c2 => ?_) (fun c2 => ?_)
      · refine lv_aload_n hx hb dX9_askedOf_50 rfl (lv_at hl 2 rfl) ?_
        refine pl_getE (v := .ref (gN g 3 i)) hx hb hts hi_X1 hi_X2 hi_X3 hi_X4 hi_X5 hi_X7 hown hK hP (aE i hi).2.1.1 (show exAt F (gN g 0 i) (zI (sD S i)) (gD g i) (gN g 1 i) (gN g 3 i) from hF.ex hi) 3 (by decide) hw_0 rfl dX9_askedOf_51 ?_
        rw [hQ]
        exact pc_aret hx hb hrt hP (by rw [← hAd]; exact hD) (by rw [← hAd]; exact hS) (⟨rfl, F, X, J, rfl, hF, by obtain rfl : m9 = 30 := (by omega); exact hX⟩) dX9_askedOf_54 hlocks
      · refine lv_aload_n hx hb dX9_askedOf_14 rfl (lv_at hl 0 rfl) ?_
        refine pl_get (ci := 8) (v := .ref (gA g 4)) (C := RX9) (T := TX9) (N := 3) hx hb hts hi_X9 hown hK hP (aL 0 (by decide)) (show F (gA g 0) = .inr (8, [.ref (gA g 1), .ref (gA g 4), .int (zI (sC S : Int))]) from hF.1.1) rfl 1 (by decide) hw_1 (fun _ h9 => h9) rfl dX9_askedOf_15 ?_
        refine lv_iload_n hx hb dX9_askedOf_18 rfl (lv_at hl 3 rfl) ?_
        refine pl_aldq hx hb hK hP (aL 4 (by decide)) 2 (show F (gA g 4) = .inl (k 2, 30, .inr (.inr (.inr (.inr (gE g))))) from hF.1.2.2.2.2) rfl (m9) (by omega) (by omega) (by decide) dX9_askedOf_19 ?_
        rcases Nat.lt_or_ge m9 (sC S) with hmc | hmc
        · rw [(aE m9 hmc).1]
          refine lv_astore (lv' := [(4, .ref (gN g 0 m9)), (0, .ref (gA g 0)), (1, .int (zI ((i : Int)))), (2, .ref (gN g 0 i)), (3, .int (zI (z3)))]) hx hb dX9_askedOf_20 hl (by decide) rfl (fun ls hl => ?_)
          refine lv_aload hx hb dX9_askedOf_22 (lv_at hl 0 rfl) ?_
          refine lv_ifnull hx hb dX9_askedOf_24 ?_
          refine lv_aload_n hx hb dX9_askedOf_27 rfl (lv_at hl 3 rfl) ?_
          refine lv_iload_n hx hb dX9_askedOf_28 rfl (lv_at hl 4 rfl) ?_
          have jn : ∀ b9 : Bool, b9 = bt (gD g i) m9 → W p l e (headSpec wsX9_askedOf ({ frames := 6, cells := 0, slots := 0, locals := 144 } : Room)).room s m ([.ref (gA g 0), .int (zI ((i : Int)))] : List Value).toArray below meth c H locs 0 0 Q (F0 m 32 ls [.int (bI (b9))]) := by
            intro b9 hb9
            refine zr_ifb_eq (tgt := 44) hx hb dX9_askedOf_32 (by decide) (fun c3 => ?_) (fun c3 => ?_)
            · refine zr_iinc (k := 4) (lv' := [(3, .int (zI (z3 + 1))), (4, .ref (gN g 0 m9)), (0, .ref (gA g 0)), (1, .int (zI ((i : Int)))), (2, .ref (gN g 0 i))]) hx hb dX9_askedOf_44 hl rfl (by decide) rfl (fun ls hl => ?_)
              refine lv_goto (tgt := 8) hx hb dX9_askedOf_47 (by decide) ?_
              exact ih_8 (m9 + 1) (z3 + 1) (F) (X) (J) (by omega) (by omega) (by first | exact hF | exact hF.set hmc (Or.inr (Or.inl rfl)) _ | exact hF.set7 hmc hw9 _ _) (by first | exact askI_no (fun q => absurd q.1 (by omega)) hX | exact askI_no (fun q => by rw [← hb9] at q; simp_all) hX | exact askI_y0 hO hX hw9 hX9 | exact askI_y9 hO hX ⟨fun _ => hJ9, by rw [askP_9 hw9]; exact hX9⟩) (by omega) _ _ hP hD hS _ (lv_sub hl [2, 3, 4, 0] rfl)
            · refine lv_aload hx hb dX9_askedOf_35 (lv_at hl 0 rfl) ?_
              refine lv_aload_n hx hb dX9_askedOf_37 rfl (lv_at hl 1 rfl) ?_
              refine pl_get (ci := 8) (v := .ref (gA g 1)) (C := RX9) (T := TX9) (N := 3) hx hb hts hi_X9 hown hK hP (aL 0 (by decide)) (show F (gA g 0) = .inr (8, [.ref (gA g 1), .ref (gA g 4), .int (zI (sC S : Int))]) from hF.1.1) rfl 0 (by decide) hw_2 (fun _ h9 => h9) rfl dX9_askedOf_38 ?_
              have hbt : bt (gD g i) m9 = true := hb9.symm.trans (by assumption)
              have e9 := (hF.2.2.2.2.1 m9 hmc).2.1.2
              have e8 := e9
              rcases (show exK (sW S m9) = 0 ∨ exK (sW S m9) = 1 ∨ exK (sW S m9) = 2 ∨ exK (sW S m9) = 3 ∨ exK (sW S m9) = 4 ∨ exK (sW S m9) = 6 by have h8 := exK_c (sW S m9); unfold exC at h8; omega) with hc9 | hc9 | hc9 | hc9 | hc9 | hc9
              · rw [hc9] at e9
                refine pc_callv (va_runU (As := [.ref (gA g 1)]) (rest := []) ⟨hx, hb, hml, hown, hts⟩ (kA0 l D hF hO hmc n0 _) (va_cwU 1 hts gX9_askedOf_X0_askEach_u168X1 rfl rfl rfl rfl (by decide +kernel) ⟨Nat.le_of_ble_eq_true rfl, Nat.le_of_ble_eq_true rfl⟩) (pc_preV hC hP (Nat.le_trans hn9 hS.1) hD hAn (pl_recv hK hP (hF.2.2.2.2.1 m9 hmc).2.1.1 e9 (ci := 0) (q := (RX1, TX1, 5)) rfl)) rfl rfl hl.1 rfl (lv_room (Nat.le_of_ble_eq_true rfl)) dX9_askedOf_41 ⟨Nat.le_of_ble_eq_true rfl, Nat.le_of_ble_eq_true rfl⟩) hD hS hA (fun u9 H locs hu9 hP hD hS hz9 => ?_)
                obtain ⟨X9, hX9, rfl⟩ := hu9
                have hw9 : sW S m9 ≠ 9 := fun h => by rw [h] at hc9; exact absurd hc9 (by decide)
                refine zr_iinc (k := 4) (lv' := [(3, .int (zI (z3 + 1))), (4, .ref (gN g 0 m9)), (0, .ref (gA g 0)), (1, .int (zI ((i : Int)))), (2, .ref (gN g 0 i))]) hx hb dX9_askedOf_44 hl rfl (by decide) rfl (fun ls hl => ?_)
                refine lv_goto (tgt := 8) hx hb dX9_askedOf_47 (by decide) ?_
                exact ih_8 (m9 + 1) (z3 + 1) (va_up F (gN g 4 m9) (.inl (k 0, 24, .inl X9))) ((fun j => if j = m9 then X9 else X j)) (J) (by omega) (by omega) (by first | exact hF | exact hF.set hmc (Or.inr (Or.inl rfl)) _ | exact hF.set7 hmc hw9 _ _) (by first | exact askI_no (fun q => absurd q.1 (by omega)) hX | exact askI_no (fun q => by rw [← hb9] at q; simp_all) hX | exact askI_y0 hO hX hw9 hX9 | exact askI_y9 hO hX ⟨fun _ => hJ9, by rw [askP_9 hw9]; exact hX9⟩) (by omega) _ _ hP hD hS _ (lv_sub hl [2, 3, 4, 0] rfl)
              · rw [hc9] at e9
                refine pc_callv (va_runU (As := [.ref (gA g 1)]) (rest := []) ⟨hx, hb, hml, hown, hts⟩ (kA0 l D hF hO hmc n0 _) (va_cwU 1 hts gX9_askedOf_X0_askEach_u168X2 rfl rfl rfl rfl (by decide +kernel) ⟨Nat.le_of_ble_eq_true rfl, Nat.le_of_ble_eq_true rfl⟩) (pc_preV hC hP (Nat.le_trans hn9 hS.1) hD hAn (pl_recv hK hP (hF.2.2.2.2.1 m9 hmc).2.1.1 e9 (ci := 1) (q := (RX2, TX2, 5)) rfl)) rfl rfl hl.1 rfl (lv_room (Nat.le_of_ble_eq_true rfl)) dX9_askedOf_41 ⟨Nat.le_of_ble_eq_true rfl, Nat.le_of_ble_eq_true rfl⟩) hD hS hA (fun u9 H locs hu9 hP hD hS hz9 => ?_)
                obtain ⟨X9, hX9, rfl⟩ := hu9
                have hw9 : sW S m9 ≠ 9 := fun h => by rw [h] at hc9; exact absurd hc9 (by decide)
                refine zr_iinc (k := 4) (lv' := [(3, .int (zI (z3 + 1))), (4, .ref (gN g 0 m9)), (0, .ref (gA g 0)), (1, .int (zI ((i : Int)))), (2, .ref (gN g 0 i))]) hx hb dX9_askedOf_44 hl rfl (by decide) rfl (fun ls hl => ?_)
                refine lv_goto (tgt := 8) hx hb dX9_askedOf_47 (by decide) ?_
                exact ih_8 (m9 + 1) (z3 + 1) (va_up F (gN g 4 m9) (.inl (k 0, 24, .inl X9))) ((fun j => if j = m9 then X9 else X j)) (J) (by omega) (by omega) (by first | exact hF | exact hF.set hmc (Or.inr (Or.inl rfl)) _ | exact hF.set7 hmc hw9 _ _) (by first | exact askI_no (fun q => absurd q.1 (by omega)) hX | exact askI_no (fun q => by rw [← hb9] at q; simp_all) hX | exact askI_y0 hO hX hw9 hX9 | exact askI_y9 hO hX ⟨fun _ => hJ9, by rw [askP_9 hw9]; exact hX9⟩) (by omega) _ _ hP hD hS _ (lv_sub hl [2, 3, 4, 0] rfl)
              · rw [hc9] at e9
                refine pc_callv (va_runU (As := [.ref (gA g 1)]) (rest := []) ⟨hx, hb, hml, hown, hts⟩ (kA0 l D hF hO hmc n0 _) (va_cwU 1 hts gX9_askedOf_X0_askEach_u168X3 rfl rfl rfl rfl (by decide +kernel) ⟨Nat.le_of_ble_eq_true rfl, Nat.le_of_ble_eq_true rfl⟩) (pc_preV hC hP (Nat.le_trans hn9 hS.1) hD hAn (pl_recv hK hP (hF.2.2.2.2.1 m9 hmc).2.1.1 e9 (ci := 2) (q := (RX3, TX3, 7)) rfl)) rfl rfl hl.1 rfl (lv_room (Nat.le_of_ble_eq_true rfl)) dX9_askedOf_41 ⟨Nat.le_of_ble_eq_true rfl, Nat.le_of_ble_eq_true rfl⟩) hD hS hA (fun u9 H locs hu9 hP hD hS hz9 => ?_)
                obtain ⟨X9, hX9, rfl⟩ := hu9
                have hw9 : sW S m9 ≠ 9 := fun h => by rw [h] at hc9; exact absurd hc9 (by decide)
                refine zr_iinc (k := 4) (lv' := [(3, .int (zI (z3 + 1))), (4, .ref (gN g 0 m9)), (0, .ref (gA g 0)), (1, .int (zI ((i : Int)))), (2, .ref (gN g 0 i))]) hx hb dX9_askedOf_44 hl rfl (by decide) rfl (fun ls hl => ?_)
                refine lv_goto (tgt := 8) hx hb dX9_askedOf_47 (by decide) ?_
                exact ih_8 (m9 + 1) (z3 + 1) (va_up F (gN g 4 m9) (.inl (k 0, 24, .inl X9))) ((fun j => if j = m9 then X9 else X j)) (J) (by omega) (by omega) (by first | exact hF | exact hF.set hmc (Or.inr (Or.inl rfl)) _ | exact hF.set7 hmc hw9 _ _) (by first | exact askI_no (fun q => absurd q.1 (by omega)) hX | exact askI_no (fun q => by rw [← hb9] at q; simp_all) hX | exact askI_y0 hO hX hw9 hX9 | exact askI_y9 hO hX ⟨fun _ => hJ9, by rw [askP_9 hw9]; exact hX9⟩) (by omega) _ _ hP hD hS _ (lv_sub hl [2, 3, 4, 0] rfl)
              · rw [hc9] at e9
                refine pc_callv (va_runU (As := [.ref (gA g 1)]) (rest := []) ⟨hx, hb, hml, hown, hts⟩ (kA0 l D hF hO hmc n0 _) (va_cwU 1 hts gX9_askedOf_X0_askEach_u168X4 rfl rfl rfl rfl (by decide +kernel) ⟨Nat.le_of_ble_eq_true rfl, Nat.le_of_ble_eq_true rfl⟩) (pc_preV hC hP (Nat.le_trans hn9 hS.1) hD hAn (pl_recv hK hP (hF.2.2.2.2.1 m9 hmc).2.1.1 e9 (ci := 3) (q := (RX4, TX4, 6)) rfl)) rfl rfl hl.1 rfl (lv_room (Nat.le_of_ble_eq_true rfl)) dX9_askedOf_41 ⟨Nat.le_of_ble_eq_true rfl, Nat.le_of_ble_eq_true rfl⟩) hD hS hA (fun u9 H locs hu9 hP hD hS hz9 => ?_)
                obtain ⟨X9, hX9, rfl⟩ := hu9
                have hw9 : sW S m9 ≠ 9 := fun h => by rw [h] at hc9; exact absurd hc9 (by decide)
                refine zr_iinc (k := 4) (lv' := [(3, .int (zI (z3 + 1))), (4, .ref (gN g 0 m9)), (0, .ref (gA g 0)), (1, .int (zI ((i : Int)))), (2, .ref (gN g 0 i))]) hx hb dX9_askedOf_44 hl rfl (by decide) rfl (fun ls hl => ?_)
                refine lv_goto (tgt := 8) hx hb dX9_askedOf_47 (by decide) ?_
                exact ih_8 (m9 + 1) (z3 + 1) (va_up F (gN g 4 m9) (.inl (k 0, 24, .inl X9))) ((fun j => if j = m9 then X9 else X j)) (J) (by omega) (by omega) (by first | exact hF | exact hF.set hmc (Or.inr (Or.inl rfl)) _ | exact hF.set7 hmc hw9 _ _) (by first | exact askI_no (fun q => absurd q.1 (by omega)) hX | exact askI_no (fun q => by rw [← hb9] at q; simp_all) hX | exact askI_y0 hO hX hw9 hX9 | exact askI_y9 hO hX ⟨fun _ => hJ9, by rw [askP_9 hw9]; exact hX9⟩) (by omega) _ _ hP hD hS _ (lv_sub hl [2, 3, 4, 0] rfl)
              · rw [hc9] at e9
                refine pc_callv (va_runU (As := [.ref (gA g 1)]) (rest := []) ⟨hx, hb, hml, hown, hts⟩ (kA0 l D hF hO hmc n0 _) (va_cwU 1 hts gX9_askedOf_X0_askEach_u168X5 rfl rfl rfl rfl (by decide +kernel) ⟨Nat.le_of_ble_eq_true rfl, Nat.le_of_ble_eq_true rfl⟩) (pc_preV hC hP (Nat.le_trans hn9 hS.1) hD hAn (pl_recv hK hP (hF.2.2.2.2.1 m9 hmc).2.1.1 e9 (ci := 4) (q := (RX5, TX5, 7)) rfl)) rfl rfl hl.1 rfl (lv_room (Nat.le_of_ble_eq_true rfl)) dX9_askedOf_41 ⟨Nat.le_of_ble_eq_true rfl, Nat.le_of_ble_eq_true rfl⟩) hD hS hA (fun u9 H locs hu9 hP hD hS hz9 => ?_)
                obtain ⟨X9, hX9, rfl⟩ := hu9
                have hw9 : sW S m9 ≠ 9 := fun h => by rw [h] at hc9; exact absurd hc9 (by decide)
                refine zr_iinc (k := 4) (lv' := [(3, .int (zI (z3 + 1))), (4, .ref (gN g 0 m9)), (0, .ref (gA g 0)), (1, .int (zI ((i : Int)))), (2, .ref (gN g 0 i))]) hx hb dX9_askedOf_44 hl rfl (by decide) rfl (fun ls hl => ?_)
                refine lv_goto (tgt := 8) hx hb dX9_askedOf_47 (by decide) ?_
                exact ih_8 (m9 + 1) (z3 + 1) (va_up F (gN g 4 m9) (.inl (k 0, 24, .inl X9))) ((fun j => if j = m9 then X9 else X j)) (J) (by omega) (by omega) (by first | exact hF | exact hF.set hmc (Or.inr (Or.inl rfl)) _ | exact hF.set7 hmc hw9 _ _) (by first | exact askI_no (fun q => absurd q.1 (by omega)) hX | exact askI_no (fun q => by rw [← hb9] at q; simp_all) hX | exact askI_y0 hO hX hw9 hX9 | exact askI_y9 hO hX ⟨fun _ => hJ9, by rw [askP_9 hw9]; exact hX9⟩) (by omega) _ _ hP hD hS _ (lv_sub hl [2, 3, 4, 0] rfl)
              · rw [hc9] at e9
                refine pc_callv (va_runU (As := [.ref (gA g 1)]) (rest := []) ⟨hx, hb, hml, hown, hts⟩ (kA7 l D hF hO hmc (exK_i6 hc9) n0 _) (va_cwO 1 hts gX9_askedOf_X7_askEach_u168X7 rfl rfl rfl (b0 := cX0_askEach) (m0 := 4) (r0 := none) (by decide +kernel) (by decide +kernel) ⟨Nat.le_of_ble_eq_true rfl, Nat.le_of_ble_eq_true rfl⟩) (pc_preV hC hP (Nat.le_trans hn9 hS.1) hD hAn (pl_recv hK hP (hF.2.2.2.2.1 m9 hmc).2.1.1 e9 (ci := 6) (q := (RX7, TX7, 7)) rfl)) rfl rfl hl.1 rfl (lv_room (Nat.le_of_ble_eq_true rfl)) dX9_askedOf_41 ⟨Nat.le_of_ble_eq_true rfl, Nat.le_of_ble_eq_true rfl⟩) hD hS hA (fun u9 H locs hu9 hP hD hS hz9 => ?_)
                obtain ⟨J9, X9, hJ9, hX9, rfl⟩ := hu9
                have hw9 := exK_i6 hc9
                refine zr_iinc (k := 4) (lv' := [(3, .int (zI (z3 + 1))), (4, .ref (gN g 0 m9)), (0, .ref (gA g 0)), (1, .int (zI ((i : Int)))), (2, .ref (gN g 0 i))]) hx hb dX9_askedOf_44 hl rfl (by decide) rfl (fun ls hl => ?_)
                refine lv_goto (tgt := 8) hx hb dX9_askedOf_47 (by decide) ?_
                exact ih_8 (m9 + 1) (z3 + 1) (va_up (va_up F (gN g 6 m9) (.inl (k 0, 24, .inl J9))) (gN g 4 m9) (.inl (k 0, 24, .inl X9))) ((fun j => if j = m9 then X9 else X j)) ((fun j => if j = m9 then J9 else J j)) (by omega) (by omega) (by first | exact hF | exact hF.set hmc (Or.inr (Or.inl rfl)) _ | exact hF.set7 hmc hw9 _ _) (by first | exact askI_no (fun q => absurd q.1 (by omega)) hX | exact askI_no (fun q => by rw [← hb9] at q; simp_all) hX | exact askI_y0 hO hX hw9 hX9 | exact askI_y9 hO hX ⟨fun _ => hJ9, by rw [askP_9 hw9]; exact hX9⟩) (by omega) _ _ hP hD hS _ (lv_sub hl [2, 3, 4, 0] rfl)
          have e9 := (hF.2.2.2.2.1 i hi).2.1.2
          rcases (show exK (sW S i) = 0 ∨ exK (sW S i) = 1 ∨ exK (sW S i) = 2 ∨ exK (sW S i) = 3 ∨ exK (sW S i) = 4 ∨ exK (sW S i) = 6 by have h8 := exK_c (sW S i); unfold exC at h8; omega) with hc9 | hc9 | hc9 | hc9 | hc9 | hc9
          · rw [hc9] at e9
            refine vp_callSi (va_Run.run (va_runU (As := [.int (zI (z3))]) (rest := []) ⟨hx, hb, hml, hown, hts⟩ (kX0_needs l D k L F (gN g 0 i) (zI (sD S i)) (gD g i) (gN g 1 i) (gN g 3 i) (aE i hi).2.1.1 (show exAt F (gN g 0 i) (zI (sD S i)) (gD g i) (gN g 1 i) (gN g 3 i) from hF.ex hi) z3 (by omega)) (va_cwU 1 hts gX9_askedOf_X0_needs_u157X1 rfl rfl rfl rfl (by decide +kernel) ⟨Nat.le_of_ble_eq_true rfl, Nat.le_of_ble_eq_true rfl⟩) (rc_preV hC hP (pl_recv hK hP (hF.2.2.2.2.1 i hi).2.1.1 e9 (ci := 0) (q := (RX1, TX1, 5)) rfl)) rfl rfl hl.1 rfl (lv_room (Nat.le_of_ble_eq_true rfl)) dX9_askedOf_29 ⟨Nat.le_of_ble_eq_true rfl, Nat.le_of_ble_eq_true rfl⟩)) (fun r9 hr9 => ?_)
            subst hr9
            exact jn _ (congrArg (bt (gD g i)) (show (z3).toNat = m9 by omega))
          · rw [hc9] at e9
            refine vp_callSi (va_Run.run (va_runU (As := [.int (zI (z3))]) (rest := []) ⟨hx, hb, hml, hown, hts⟩ (kX0_needs l D k L F (gN g 0 i) (zI (sD S i)) (gD g i) (gN g 1 i) (gN g 3 i) (aE i hi).2.1.1 (show exAt F (gN g 0 i) (zI (sD S i)) (gD g i) (gN g 1 i) (gN g 3 i) from hF.ex hi) z3 (by omega)) (va_cwU 1 hts gX9_askedOf_X0_needs_u157X2 rfl rfl rfl rfl (by decide +kernel) ⟨Nat.le_of_ble_eq_true rfl, Nat.le_of_ble_eq_true rfl⟩) (rc_preV hC hP (pl_recv hK hP (hF.2.2.2.2.1 i hi).2.1.1 e9 (ci := 1) (q := (RX2, TX2, 5)) rfl)) rfl rfl hl.1 rfl (lv_room (Nat.le_of_ble_eq_true rfl)) dX9_askedOf_29 ⟨Nat.le_of_ble_eq_true rfl, Nat.le_of_ble_eq_true rfl⟩)) (fun r9 hr9 => ?_)
            subst hr9
            exact jn _ (congrArg (bt (gD g i)) (show (z3).toNat = m9 by omega))
          · rw [hc9] at e9
            refine vp_callSi (va_Run.run (va_runU (As := [.int (zI (z3))]) (rest := []) ⟨hx, hb, hml, hown, hts⟩ (kX0_needs l D k L F (gN g 0 i) (zI (sD S i)) (gD g i) (gN g 1 i) (gN g 3 i) (aE i hi).2.1.1 (show exAt F (gN g 0 i) (zI (sD S i)) (gD g i) (gN g 1 i) (gN g 3 i) from hF.ex hi) z3 (by omega)) (va_cwU 1 hts gX9_askedOf_X0_needs_u157X3 rfl rfl rfl rfl (by decide +kernel) ⟨Nat.le_of_ble_eq_true rfl, Nat.le_of_ble_eq_true rfl⟩) (rc_preV hC hP (pl_recv hK hP (hF.2.2.2.2.1 i hi).2.1.1 e9 (ci := 2) (q := (RX3, TX3, 7)) rfl)) rfl rfl hl.1 rfl (lv_room (Nat.le_of_ble_eq_true rfl)) dX9_askedOf_29 ⟨Nat.le_of_ble_eq_true rfl, Nat.le_of_ble_eq_true rfl⟩)) (fun r9 hr9 => ?_)
            subst hr9
            exact jn _ (congrArg (bt (gD g i)) (show (z3).toNat = m9 by omega))
          · rw [hc9] at e9
            refine vp_callSi (va_Run.run (va_runU (As := [.int (zI (z3))]) (rest := []) ⟨hx, hb, hml, hown, hts⟩ (kX0_needs l D k L F (gN g 0 i) (zI (sD S i)) (gD g i) (gN g 1 i) (gN g 3 i) (aE i hi).2.1.1 (show exAt F (gN g 0 i) (zI (sD S i)) (gD g i) (gN g 1 i) (gN g 3 i) from hF.ex hi) z3 (by omega)) (va_cwU 1 hts gX9_askedOf_X0_needs_u157X4 rfl rfl rfl rfl (by decide +kernel) ⟨Nat.le_of_ble_eq_true rfl, Nat.le_of_ble_eq_true rfl⟩) (rc_preV hC hP (pl_recv hK hP (hF.2.2.2.2.1 i hi).2.1.1 e9 (ci := 3) (q := (RX4, TX4, 6)) rfl)) rfl rfl hl.1 rfl (lv_room (Nat.le_of_ble_eq_true rfl)) dX9_askedOf_29 ⟨Nat.le_of_ble_eq_true rfl, Nat.le_of_ble_eq_true rfl⟩)) (fun r9 hr9 => ?_)
            subst hr9
            exact jn _ (congrArg (bt (gD g i)) (show (z3).toNat = m9 by omega))
          · rw [hc9] at e9
            refine vp_callSi (va_Run.run (va_runU (As := [.int (zI (z3))]) (rest := []) ⟨hx, hb, hml, hown, hts⟩ (kX0_needs l D k L F (gN g 0 i) (zI (sD S i)) (gD g i) (gN g 1 i) (gN g 3 i) (aE i hi).2.1.1 (show exAt F (gN g 0 i) (zI (sD S i)) (gD g i) (gN g 1 i) (gN g 3 i) from hF.ex hi) z3 (by omega)) (va_cwU 1 hts gX9_askedOf_X0_needs_u157X5 rfl rfl rfl rfl (by decide +kernel) ⟨Nat.le_of_ble_eq_true rfl, Nat.le_of_ble_eq_true rfl⟩) (rc_preV hC hP (pl_recv hK hP (hF.2.2.2.2.1 i hi).2.1.1 e9 (ci := 4) (q := (RX5, TX5, 7)) rfl)) rfl rfl hl.1 rfl (lv_room (Nat.le_of_ble_eq_true rfl)) dX9_askedOf_29 ⟨Nat.le_of_ble_eq_true rfl, Nat.le_of_ble_eq_true rfl⟩)) (fun r9 hr9 => ?_)
            subst hr9
            exact jn _ (congrArg (bt (gD g i)) (show (z3).toNat = m9 by omega))
          · rw [hc9] at e9
            refine vp_callSi (va_Run.run (va_runU (As := [.int (zI (z3))]) (rest := []) ⟨hx, hb, hml, hown, hts⟩ (kX0_needs l D k L F (gN g 0 i) (zI (sD S i)) (gD g i) (gN g 1 i) (gN g 3 i) (aE i hi).2.1.1 (show exAt F (gN g 0 i) (zI (sD S i)) (gD g i) (gN g 1 i) (gN g 3 i) from hF.ex hi) z3 (by omega)) (va_cwU 1 hts gX9_askedOf_X0_needs_u157X7 rfl rfl rfl rfl (by decide +kernel) ⟨Nat.le_of_ble_eq_true rfl, Nat.le_of_ble_eq_true rfl⟩) (rc_preV hC hP (pl_recv hK hP (hF.2.2.2.2.1 i hi).2.1.1 e9 (ci := 6) (q := (RX7, TX7, 7)) rfl)) rfl rfl hl.1 rfl (lv_room (Nat.le_of_ble_eq_true rfl)) dX9_askedOf_29 ⟨Nat.le_of_ble_eq_true rfl, Nat.le_of_ble_eq_true rfl⟩)) (fun r9 hr9 => ?_)
            subst hr9
            exact jn _ (congrArg (bt (gD g i)) (show (z3).toNat = m9 by omega))
        · rw [aX m9 (by omega) (by omega)]
          refine lv_astoreN (lv' := [(4, .null), (0, .ref (gA g 0)), (1, .int (zI ((i : Int)))), (2, .ref (gN g 0 i)), (3, .int (zI (z3)))]) hx hb dX9_askedOf_20 hl (by decide) rfl (fun ls hl => ?_)
          refine lv_aloadN hx hb dX9_askedOf_22 (lv_at hl 0 rfl) ?_
          refine lv_ifnullN (tgt := 44) hx hb dX9_askedOf_24 (by decide) ?_
          refine zr_iinc (k := 4) (lv' := [(3, .int (zI (z3 + 1))), (4, .null), (0, .ref (gA g 0)), (1, .int (zI ((i : Int)))), (2, .ref (gN g 0 i))]) hx hb dX9_askedOf_44 hl rfl (by decide) rfl (fun ls hl => ?_)
          refine lv_goto (tgt := 8) hx hb dX9_askedOf_47 (by decide) ?_
          exact ih_8 (m9 + 1) (z3 + 1) (F) (X) (J) (by omega) (by omega) (by first | exact hF | exact hF.set hmc (Or.inr (Or.inl rfl)) _ | exact hF.set7 hmc hw9 _ _) (by first | exact askI_no (fun q => absurd q.1 (by omega)) hX | exact askI_no (fun q => by rw [← hb9] at q; simp_all) hX | exact askI_y0 hO hX hw9 hX9 | exact askI_y9 hO hX ⟨fun _ => hJ9, by rw [askP_9 hw9]; exact hX9⟩) (by omega) _ _ hP hD hS _ (lv_sub hl [2, 3, 4, 0] rfl)
  exact cut_8 ((30 - (0) : Int).toNat + 1) (0) (0) (f) (gR g 4) (gR g 6) (by omega) (by omega) (by rw [setRw_id2]; exact hR) (askI_0 S _ _ _) (by omega) _ _ hP hD hS _ (lv_sub hl [2, 3, 1, 0] rfl)

set_option maxHeartbeats 4000000 in
set_option maxRecDepth 100000 in
theorem kX9_gatheredOf_x (l : Launch) (D : va_G) (k : Nat → ClassId) (L : List Nat) (f : Nat → va_E) (g : CG) (S : SA) (hR : cRep k L f g S) (hO : aOK S) (z : Int) (hz : -2147483648 ≤ z ∧ z < 2147483648) (hz2 : ¬ (0 ≤ z ∧ z < (sC S : Int))) (hlt : l.stackTraces = false) (n0 sz : Nat) : vx_Met l yX9_gatheredOf wsX9_gatheredOf ({ frames := 7, cells := 1, slots := 6, locals := 103 } : Room) (va_Pc [.ref (gA g 0), .int (zI (z))] (xPre D (tyL k) n0 (va_pl L f) sz)) (va_Qv (fun _ => False) (pB D (va_pl L f) sz) (va_A (va_pl L f) sz)) (xX D (va_pl L f) sz (fun E u => E = "java/lang/IndexOutOfBoundsException" ∧ u = va_pl L f)) 1 6 (va_A (va_pl L f) sz) := by
  refine vx_ofW (cc := cX9_gatheredOf) (maxL := 5) (ret := (some (.object "Regionry$RegionSet"))) (by decide) rfl ?_
  intro p e s m args below meth c s₁ B hml hno hv
  obtain ⟨rfl, ⟨hsz, hn9, hP, hC, hD0⟩, hX⟩ := hv
  have hK := hC.1
  have hNW := hC.2.1
  have hx := B.exec
  have hb := B.bytes
  have hrt := B.returns
  have hts := atoms_spec (ws := wsX9_gatheredOf) B.pre
  have hown : s.vm.findClass RX9 = some m.cls := findClass_of_methodNamed B.named
  have hlocks := B.notSynchronized
  subst hsz
  obtain ⟨A, hAd⟩ : ∃ A, A = va_A (va_pl L f) s.heap.size := ⟨_, rfl⟩
  have hD := hD0.self (sz := s.heap.size)
  rw [← hAd] at hD
  have hA : ∀ q : Nat, s.heap.size ≤ q → A q := fun q h => by rw [hAd]; exact Or.inr h
  have hAn : ∀ q : Nat, A q → n0 ≤ q := fun q h => by
    rw [hAd] at h
    rcases h with ⟨k9, e9, hk9⟩ | h
    · exact hD0.2 k9 _ hk9
    · exact Nat.le_trans hn9 h
  have hS : va_S A s.heap s.heap [] := va_S.rf
  have hl := lv_entry ([.ref (gA g 0), .int (zI (z))]) (n := 5) (Nat.le_of_ble_eq_true rfl)
  rw [lg_entry_eq]
  generalize (lg_sl ([.ref (gA g 0), .int (zI (z))]) ++ List.replicate (5 - (lg_sl ([.ref (gA g 0), .int (zI (z))])).length) Slot.unset).toArray = ls at hl ⊢
  have hl : lv_has ls 5 [(0, .ref (gA g 0)), (1, .int (zI (z)))] := hl
  obtain ⟨Q, hQ⟩ : ∃ Q, Q = vx_MQ below (va_Qv (fun _ => False) (pB D (va_pl L f) s.heap.size) (va_A (va_pl L f) s.heap.size)) (xX D (va_pl L f) s.heap.size (fun E u => E = "java/lang/IndexOutOfBoundsException" ∧ u = va_pl L f)) ([.ref (gA g 0), .int (zI (z))] : List Value).toArray s 1 6 (va_A (va_pl L f) s.heap.size) := ⟨_, rfl⟩
  rw [← hQ]
  obtain ⟨⟨a0, a1, a2, a3, a4⟩, aL, ao, aM, aE, aX⟩ := id hR
  have hn0 := hO.1
  have hc0 := hO.2.2.2.1
  refine lv_aload_n hx hb dX9_gatheredOf_0 rfl (lv_at hl 0 rfl) ?_
  refine lv_iload_n hx hb dX9_gatheredOf_1 rfl (lv_at hl 1 rfl) ?_
  rw [hQ]
  exact px_outv (vx_runV (As := [.int (zI (z))]) (rest := []) ⟨hx, hb, hml, hown, hts⟩ (kX9_expressionOf_x l D k L f g S hR hO z hz hz2 hlt n0 _) (cwV 1 hts gX9_gatheredOf_X9_expressionOf rfl rfl rfl (by decide +kernel) ⟨Nat.le_of_ble_eq_true rfl, Nat.le_of_ble_eq_true rfl⟩) (xc_preV hC hX hP (Nat.le_trans hn9 hS.1) hD hS hAn (pl_recv hK hP (aL 0 (by decide)) a0 (ci := 8) (q := (RX9, TX9, 3)) rfl)) rfl rfl hl.1 rfl (lv_room (Nat.le_of_ble_eq_true rfl)) dX9_gatheredOf_2 ⟨Nat.le_of_ble_eq_true rfl, Nat.le_of_ble_eq_true rfl⟩) (by rw [← hAd]; exact hD) (by rw [← hAd]; exact hS) hlocks hno (Nat.le_of_ble_eq_true rfl) (Nat.le_of_ble_eq_true rfl) (fun E u h => h)

set_option maxHeartbeats 4000000 in
set_option maxRecDepth 100000 in
theorem kX9_askedOf_x (l : Launch) (D : va_G) (k : Nat → ClassId) (L : List Nat) (f : Nat → va_E) (g : CG) (S : SA) (hR : cRep k L f g S) (hO : aOK S) (z : Int) (hz : -2147483648 ≤ z ∧ z < 2147483648) (hz2 : ¬ (0 ≤ z ∧ z < (sC S : Int))) (hlt : l.stackTraces = false) (n0 sz : Nat) : vx_Met l yX9_askedOf wsX9_askedOf ({ frames := 7, cells := 1, slots := 6, locals := 103 } : Room) (va_Pc [.ref (gA g 0), .int (zI (z))] (xPre D (tyL k) n0 (va_pl L f) sz)) (va_Qv (fun _ => False) (pB D (va_pl L f) sz) (va_A (va_pl L f) sz)) (xX D (va_pl L f) sz (fun E u => E = "java/lang/IndexOutOfBoundsException" ∧ u = va_pl L f)) 1 6 (va_A (va_pl L f) sz) := by
  refine vx_ofW (cc := cX9_askedOf) (maxL := 5) (ret := (some (.object "Regionry$RegionSet"))) (by decide) rfl ?_
  intro p e s m args below meth c s₁ B hml hno hv
  obtain ⟨rfl, ⟨hsz, hn9, hP, hC, hD0⟩, hX⟩ := hv
  have hK := hC.1
  have hNW := hC.2.1
  have hx := B.exec
  have hb := B.bytes
  have hrt := B.returns
  have hts := atoms_spec (ws := wsX9_askedOf) B.pre
  have hown : s.vm.findClass RX9 = some m.cls := findClass_of_methodNamed B.named
  have hlocks := B.notSynchronized
  subst hsz
  obtain ⟨A, hAd⟩ : ∃ A, A = va_A (va_pl L f) s.heap.size := ⟨_, rfl⟩
  have hD := hD0.self (sz := s.heap.size)
  rw [← hAd] at hD
  have hA : ∀ q : Nat, s.heap.size ≤ q → A q := fun q h => by rw [hAd]; exact Or.inr h
  have hAn : ∀ q : Nat, A q → n0 ≤ q := fun q h => by
    rw [hAd] at h
    rcases h with ⟨k9, e9, hk9⟩ | h
    · exact hD0.2 k9 _ hk9
    · exact Nat.le_trans hn9 h
  have hS : va_S A s.heap s.heap [] := va_S.rf
  have hl := lv_entry ([.ref (gA g 0), .int (zI (z))]) (n := 5) (Nat.le_of_ble_eq_true rfl)
  rw [lg_entry_eq]
  generalize (lg_sl ([.ref (gA g 0), .int (zI (z))]) ++ List.replicate (5 - (lg_sl ([.ref (gA g 0), .int (zI (z))])).length) Slot.unset).toArray = ls at hl ⊢
  have hl : lv_has ls 5 [(0, .ref (gA g 0)), (1, .int (zI (z)))] := hl
  obtain ⟨Q, hQ⟩ : ∃ Q, Q = vx_MQ below (va_Qv (fun _ => False) (pB D (va_pl L f) s.heap.size) (va_A (va_pl L f) s.heap.size)) (xX D (va_pl L f) s.heap.size (fun E u => E = "java/lang/IndexOutOfBoundsException" ∧ u = va_pl L f)) ([.ref (gA g 0), .int (zI (z))] : List Value).toArray s 1 6 (va_A (va_pl L f) s.heap.size) := ⟨_, rfl⟩
  rw [← hQ]
  obtain ⟨⟨a0, a1, a2, a3, a4⟩, aL, ao, aM, aE, aX⟩ := id hR
  have hn0 := hO.1
  have hc0 := hO.2.2.2.1
  refine lv_aload_n hx hb dX9_askedOf_0 rfl (lv_at hl 0 rfl) ?_
  refine lv_iload_n hx hb dX9_askedOf_1 rfl (lv_at hl 1 rfl) ?_
  rw [hQ]
  exact px_outv (vx_runV (As := [.int (zI (z))]) (rest := []) ⟨hx, hb, hml, hown, hts⟩ (kX9_expressionOf_x l D k L f g S hR hO z hz hz2 hlt n0 _) (cwV 1 hts gX9_askedOf_X9_expressionOf rfl rfl rfl (by decide +kernel) ⟨Nat.le_of_ble_eq_true rfl, Nat.le_of_ble_eq_true rfl⟩) (xc_preV hC hX hP (Nat.le_trans hn9 hS.1) hD hS hAn (pl_recv hK hP (aL 0 (by decide)) a0 (ci := 8) (q := (RX9, TX9, 3)) rfl)) rfl rfl hl.1 rfl (lv_room (Nat.le_of_ble_eq_true rfl)) dX9_askedOf_2 ⟨Nat.le_of_ble_eq_true rfl, Nat.le_of_ble_eq_true rfl⟩) (by rw [← hAd]; exact hD) (by rw [← hAd]; exact hS) hlocks hno (Nat.le_of_ble_eq_true rfl) (Nat.le_of_ble_eq_true rfl) (fun E u h => h)
