/-- the node h, of the class ci, answers b of the region z, w -/
def isOneM (l : Launch) (D : va_G) (k : Nat → ClassId) (L : List Nat) (f : Nat → va_E) (ci h tx : Nat) (z w : Int) (b : Bool) : Prop := (ci = 0 → Met l yX1_isOne wsX1_isOne ({ frames := 1, cells := 0, slots := 0, locals := 22 } : Room) (va_Pc [.ref h, .ref tx, .int (zI z), .int (zI w)] (rPre D (tyL k) (va_pl L f))) (vp_Si (fun r9 => r9 = bI b)) 0 0 (fun _ => False)) ∧ (ci = 1 → Met l yX2_isOne wsX2_isOne ({ frames := 2, cells := 0, slots := 0, locals := 43 } : Room) (va_Pc [.ref h, .ref tx, .int (zI z), .int (zI w)] (rPre D (tyL k) (va_pl L f))) (vp_Si (fun r9 => r9 = bI b)) 0 0 (fun _ => False)) ∧ (ci = 2 → Met l yX3_isOne wsX3_isOne ({ frames := 3, cells := 0, slots := 0, locals := 75 } : Room) (va_Pc [.ref h, .ref tx, .int (zI z), .int (zI w)] (rPre D (tyL k) (va_pl L f))) (vp_Si (fun r9 => r9 = bI b)) 0 0 (fun _ => False)) ∧ (ci = 3 → Met l yX4_isOne wsX4_isOne ({ frames := 3, cells := 0, slots := 0, locals := 71 } : Room) (va_Pc [.ref h, .ref tx, .int (zI z), .int (zI w)] (rPre D (tyL k) (va_pl L f))) (vp_Si (fun r9 => r9 = bI b)) 0 0 (fun _ => False)) ∧ (ci = 4 → Met l yX5_isOne wsX5_isOne ({ frames := 3, cells := 0, slots := 0, locals := 71 } : Room) (va_Pc [.ref h, .ref tx, .int (zI z), .int (zI w)] (rPre D (tyL k) (va_pl L f))) (vp_Si (fun r9 => r9 = bI b)) 0 0 (fun _ => False)) ∧ (ci = 6 → Met l yX7_isOne wsX7_isOne ({ frames := 3, cells := 0, slots := 0, locals := 71 } : Room) (va_Pc [.ref h, .ref tx, .int (zI z), .int (zI w)] (rPre D (tyL k) (va_pl L f))) (vp_Si (fun r9 => r9 = bI b)) 0 0 (fun _ => False))

set_option maxHeartbeats 4000000 in
set_option maxRecDepth 100000 in
theorem kX0_askEach (l : Launch) (D : va_G) (k : Nat → ClassId) (L : List Nat) (f : Nat → va_E) (h ci : Nat) (rest : List Value) (d nd : Int32) (gs as r : Nat) (g : Nat → Int32) (hc : exC ci) (hh : h ∈ L) (hfh : f h = .inr (ci, .int d :: .int nd :: .ref gs :: .ref as :: rest)) (has : as ∈ L) (hfas : f as = .inr (5, [.ref r])) (hr : r ∈ L) (hfr : f r = .inl (k 0, 24, .inl g)) (tx la ma : Nat) (n : Int) (T : Nat → Int32) (htx : tx ∈ L) (hftx : f tx = .inr (7, [.ref la, .ref ma, .int (zI n)])) (hla : la ∈ L) (hfla : f la = .inl (k 0, 24, .inl T)) (hn : 0 ≤ n ∧ n ≤ 24) (hrla : la ≠ r) (P : Int → Int → Bool) (hone : ∀ (G : Nat → Int32) (z w : Int), 0 ≤ z → z < w → w ≤ 24 → isOneM l D k L (va_up f r (.inl (k 0, 24, .inl G))) ci h tx z w (P z w)) (n0 sz : Nat) : Met l yX0_askEach wsX0_askEach ({ frames := 4, cells := 0, slots := 0, locals := 98 } : Room) (va_Pc [.ref h, .ref tx] (pPre D (tyL k) n0 (va_pl L f) sz)) (va_Qv (fun u => ∃ G : Nat → Int32, aeP P n G ∧ u = va_pl L (va_up f r (.inl (k 0, 24, .inl G)))) (pB D (va_pl L f) sz) (va_A (va_pl L f) sz)) 0 0 (va_A (va_pl L f) sz) := by
  refine Met.ofW (cc := cX0_askEach) (maxL := 4) (ret := none) (by decide) rfl ?_
  intro p e s m args below meth c s₁ B hml hv
  obtain ⟨rfl, hsz, hn9, hP, hC, hD0⟩ := hv
  have hK := hC.1
  have hNW := hC.2.1
  have hx := B.exec
  have hb := B.bytes
  have hrt := B.returns
  have hts := atoms_spec (ws := wsX0_askEach) B.pre
  have hown : s.vm.findClass RX0 = some m.cls := findClass_of_methodNamed B.named
  have hlocks := B.notSynchronized
  subst hsz
  obtain ⟨A, hAd⟩ : ∃ A, A = va_A (va_pl L f) s.heap.size := ⟨_, rfl⟩
  have hD := hD0.self (sz := s.heap.size)
  rw [← hAd] at hD
  have hA : ∀ q : Nat, s.heap.size ≤ q → A q := fun q h => by rw [hAd]; exact Or.inr h
  have hAn : ∀ q : Nat, A q → n0 ≤ q := fun q h => by
    rw [hAd] at h
    rcases h with ⟨k9, e9, hk9⟩ | h
    · exact hD0.2 k9 _ hk9
    · exact Nat.le_trans hn9 h
  have hS : va_S A s.heap s.heap [] := va_S.rf
  have hi_X1 : ∀ w ∈ u_ws RX1 TX1 5, w ∈ wsX0_askEach := by decide +kernel
  have hi_X2 : ∀ w ∈ u_ws RX2 TX2 5, w ∈ wsX0_askEach := by decide +kernel
  have hi_X3 : ∀ w ∈ u_ws RX3 TX3 7, w ∈ wsX0_askEach := by decide +kernel
  have hi_X4 : ∀ w ∈ u_ws RX4 TX4 6, w ∈ wsX0_askEach := by decide +kernel
  have hi_X5 : ∀ w ∈ u_ws RX5 TX5 7, w ∈ wsX0_askEach := by decide +kernel
  have hi_X7 : ∀ w ∈ u_ws RX7 TX7 7, w ∈ wsX0_askEach := by decide +kernel
  have hi_X8 : ∀ w ∈ u_ws RX8 TX8 3, w ∈ wsX0_askEach := by decide +kernel
  have hw_0 := hts (.fieldLink RX0 16 "Regionry$Expression" "asked" "LRegionry$RegionSet;") (by decide +kernel)
  have hl := lv_entry ([.ref h, .ref tx]) (n := 4) (Nat.le_of_ble_eq_true rfl)
  rw [lg_entry_eq]
  generalize (lg_sl ([.ref h, .ref tx]) ++ List.replicate (4 - (lg_sl ([.ref h, .ref tx])).length) Slot.unset).toArray = ls at hl ⊢
  have hl : lv_has ls 4 [(0, .ref h), (1, .ref tx)] := hl
  obtain ⟨Q, hQ⟩ : ∃ Q, Q = MQ below (va_Qv (fun u => ∃ G : Nat → Int32, aeP P n G ∧ u = va_pl L (va_up f r (.inl (k 0, 24, .inl G)))) (pB D (va_pl L f) s.heap.size) (va_A (va_pl L f) s.heap.size)) ([.ref h, .ref tx] : List Value).toArray s 0 0 (va_A (va_pl L f) s.heap.size) := ⟨_, rfl⟩
  rw [← hQ]
  refine lv_aload_n hx hb dX0_askEach_0 rfl (lv_at hl 0 rfl) ?_
  refine pl_getE (v := .ref as) hx hb hts hi_X1 hi_X2 hi_X3 hi_X4 hi_X5 hi_X7 hown hK hP hh (⟨ci, rest, hc, hfh⟩ : exAt f h d nd gs as) 3 (by decide) hw_0 rfl dX0_askEach_1 ?_
  refine pc_callv (va_runV (As := []) (rest := []) ⟨hx, hb, hml, hown, hts⟩ (kX6_clear l D k L f as r g has hfas hr hfr  n0 _) (cwV 0 hts gX0_askEach_X6_clear rfl rfl rfl (by decide +kernel) ⟨Nat.le_of_ble_eq_true rfl, Nat.le_of_ble_eq_true rfl⟩) (pc_preV hC hP (Nat.le_trans hn9 hS.1) hD hAn (pl_recv hK hP has hfas (ci := 5) (q := (RX6, TX6, 1)) rfl)) rfl rfl hl.1 rfl (lv_room (Nat.le_of_ble_eq_true rfl)) dX0_askEach_4 ⟨Nat.zero_le _, Nat.zero_le _⟩) hD hS hA (fun ur1 H locs hr1 hP hD hS hzr1 => ?_)
  subst hr1
  have hP : va_P D vwCl (va_pl L (va_up f r (.inl (k 0, 24, .inl (fa_fill (fun _ => zI 0) g 24))))) H := hP
  have hD : va_D A (va_pl L (va_up f r (.inl (k 0, 24, .inl (fa_fill (fun _ => zI 0) g 24))))) := hD
  refine zr_const hx hb dX0_askEach_7 ?_
  refine lv_istore_n (lv' := [(2, .int (zI (0))), (0, .ref h), (1, .ref tx)]) hx hb dX0_askEach_8 rfl hl (by decide) rfl (fun ls hl => ?_)
  have cut_9 : ∀ (n9 : Nat) (a : Nat) (z2 : Int) (G : Nat → Int32), ((a : Int) ≤ n) → (z2 = a) → (aeI P n a 0 G) → n - z2 < (n9 : Int) → ∀ (H : Heap) (locs : List Loc), va_P D vwCl (va_pl L (va_up f r (.inl (k 0, 24, .inl G)))) H → va_D A (va_pl L (va_up f r (.inl (k 0, 24, .inl G)))) → va_S A s.heap H locs → ∀ (ls : Array Slot), lv_has ls 4 [(0, .ref h), (1, .ref tx), (2, .int (zI (z2)))] → W p l e (headSpec wsX0_askEach ({ frames := 4, cells := 0, slots := 0, locals := 98 } : Room)).room s m ([.ref h, .ref tx] : List Value).toArray below meth c H locs 0 0 Q (F0 m 9 ls []) := by
    intro n9
    induction n9 with
    | zero =>
      intro a z2 G ha hz2 hG hfu
      exact absurd hfu (by omega)
    | succ n9 ih_9 =>
      intro a z2 G ha hz2 hG hfu H locs hP hD hS ls hl
      refine lv_iload_n hx hb dX0_askEach_9 rfl (lv_at hl 2 rfl) ?_
      refine lv_aload_n hx hb dX0_askEach_10 rfl (lv_at hl 1 rfl) ?_
      refine pl_getN (host := "Regionry") (ci := 7) (v := .int (zI (n))) (C := RX8) (T := TX8) (N := 3) hx hb hts hi_X8 hown hK hP htx ((va_up_ne _ _ (ne_k hftx hfr (by simp))).trans hftx) rfl 2 (by decide) (va_Nw.use rfl (hNW (.fieldLinkNest RX0 29 "Regionry$Text" "size" "I" "Regionry") (by decide +kernel))) (fun _ h9 => h9) rfl dX0_askEach_11 ?_
      refine zr_icmp_ge (tgt := 60) hx hb dX0_askEach_14 (by decide) (by omega) (by omega) (fun c2 => ?_) (fun c2 => ?_)
      · rw [hQ]
        exact pc_vret hx hb hrt hP (by rw [← hAd]; exact hD) (by rw [← hAd]; exact hS) (⟨G, ae_e hG (by omega), rfl⟩) dX0_askEach_60 hlocks
      · refine lv_iload_n hx hb dX0_askEach_17 rfl (lv_at hl 2 rfl) ?_
        refine zr_const hx hb dX0_askEach_18 ?_
        refine zr_add hx hb dX0_askEach_19 ?_
        refine lv_istore_n (lv' := [(3, .int (zI (z2 + 1))), (0, .ref h), (1, .ref tx), (2, .int (zI (z2)))]) hx hb dX0_askEach_20 rfl hl (by decide) rfl (fun ls hl => ?_)
        have cut_21 : ∀ (n9 : Nat) (b : Nat) (z3 : Int) (G : Nat → Int32), (a + 1 ≤ b ∧ (b : Int) ≤ n + 1) → (z3 = b) → (aeI P n a b G) → n + 1 - z3 < (n9 : Int) → ∀ (H : Heap) (locs : List Loc), va_P D vwCl (va_pl L (va_up f r (.inl (k 0, 24, .inl G)))) H → va_D A (va_pl L (va_up f r (.inl (k 0, 24, .inl G)))) → va_S A s.heap H locs → ∀ (ls : Array Slot), lv_has ls 4 [(0, .ref h), (1, .ref tx), (2, .int (zI (z2))), (3, .int (zI (z3)))] → W p l e (headSpec wsX0_askEach ({ frames := 4, cells := 0, slots := 0, locals := 98 } : Room)).room s m ([.ref h, .ref tx] : List Value).toArray below meth c H locs 0 0 Q (F0 m 21 ls []) := by
          intro n9
          induction n9 with
          | zero =>
            intro b z3 G hb3 hz3 hG hfu
            exact absurd hfu (by omega)
          | succ n9 ih_21 =>
            intro b z3 G hb3 hz3 hG hfu H locs hP hD hS ls hl
            refine lv_iload_n hx hb dX0_askEach_21 rfl (lv_at hl 3 rfl) ?_
            refine lv_aload_n hx hb dX0_askEach_22 rfl (lv_at hl 1 rfl) ?_
            refine pl_getN (host := "Regionry") (ci := 7) (v := .int (zI (n))) (C := RX8) (T := TX8) (N := 3) hx hb hts hi_X8 hown hK hP htx ((va_up_ne _ _ (ne_k hftx hfr (by simp))).trans hftx) rfl 2 (by decide) (va_Nw.use rfl (hNW (.fieldLinkNest RX0 29 "Regionry$Text" "size" "I" "Regionry") (by decide +kernel))) (fun _ h9 => h9) rfl dX0_askEach_23 ?_
            refine zr_icmp_gt (tgt := 54) hx hb dX0_askEach_26 (by decide) (by omega) (by omega) (fun c3 => ?_) (fun c3 => ?_)
            · refine zr_iinc (k := 2) (lv' := [(2, .int (zI (z2 + 1))), (0, .ref h), (1, .ref tx), (3, .int (zI (z3)))]) hx hb dX0_askEach_54 hl rfl (by decide) rfl (fun ls hl => ?_)
              refine lv_goto (tgt := 9) hx hb dX0_askEach_57 (by decide) ?_
              exact ih_9 (a + 1) (z2 + 1) (G) (by omega) (by omega) (ae_n hG (by omega)) (by omega) _ _ hP hD hS _ (lv_sub hl [1, 2, 0] rfl)
            · refine lv_aload_n hx hb dX0_askEach_29 rfl (lv_at hl 0 rfl) ?_
              refine lv_aload_n hx hb dX0_askEach_30 rfl (lv_at hl 1 rfl) ?_
              refine lv_iload_n hx hb dX0_askEach_31 rfl (lv_at hl 2 rfl) ?_
              refine lv_iload_n hx hb dX0_askEach_32 rfl (lv_at hl 3 rfl) ?_
              have jn : ∀ b9 : Bool, b9 = (P z2 z3) → W p l e (headSpec wsX0_askEach ({ frames := 4, cells := 0, slots := 0, locals := 98 } : Room)).room s m ([.ref h, .ref tx] : List Value).toArray below meth c H locs 0 0 Q (F0 m 36 ls [.int (bI (b9))]) := by
                intro b9 hb9
                refine zr_ifb_eq (tgt := 48) hx hb dX0_askEach_36 (by decide) (fun c4 => ?_) (fun c4 => ?_)
                · refine zr_iinc (k := 3) (lv' := [(3, .int (zI (z3 + 1))), (0, .ref h), (1, .ref tx), (2, .int (zI (z2)))]) hx hb dX0_askEach_48 hl rfl (by decide) rfl (fun ls hl => ?_)
                  refine lv_goto (tgt := 21) hx hb dX0_askEach_51 (by decide) ?_
                  exact ih_21 (b + 1) (z3 + 1) (G) (by omega) (by omega) (by first | exact ae_s1 hG hz2 hz3 (hb9.symm.trans (by assumption)) (by omega) | exact ae_s0 hG hz2 hz3 (hb9.symm.trans (by assumption))) (by omega) _ _ hP hD hS _ (lv_sub hl [1, 2, 3, 0] rfl)
                · refine lv_aload_n hx hb dX0_askEach_39 rfl (lv_at hl 0 rfl) ?_
                  refine pl_getE (v := .ref as) hx hb hts hi_X1 hi_X2 hi_X3 hi_X4 hi_X5 hi_X7 hown hK hP hh (exAt.up (ne_k hfh hfr (by simp)) (⟨ci, rest, hc, hfh⟩ : exAt f h d nd gs as)) 3 (by decide) hw_0 rfl dX0_askEach_40 ?_
                  refine lv_iload_n hx hb dX0_askEach_43 rfl (lv_at hl 2 rfl) ?_
                  refine lv_iload_n hx hb dX0_askEach_44 rfl (lv_at hl 3 rfl) ?_
                  refine pc_callv (va_runV (As := [.int (zI (z2)), .int (zI (z3))]) (rest := []) ⟨hx, hb, hml, hown, hts⟩ (kX6_add l D k L (va_up f r (.inl (k 0, 24, .inl G))) as r G has ((va_up_ne _ _ (ne_k hfas hfr (by simp))).trans hfas) hr (va_up_self _ _ _) (z2) (by omega) (z3) (by omega) n0 _) (cwV 2 hts gX0_askEach_X6_add rfl rfl rfl (by decide +kernel) ⟨Nat.le_of_ble_eq_true rfl, Nat.le_of_ble_eq_true rfl⟩) (pc_preV hC hP (Nat.le_trans hn9 hS.1) hD hAn (pl_recv hK hP has ((va_up_ne _ _ (ne_k hfas hfr (by simp))).trans hfas) (ci := 5) (q := (RX6, TX6, 1)) rfl)) rfl rfl hl.1 rfl (lv_room (Nat.le_of_ble_eq_true rfl)) dX0_askEach_45 ⟨Nat.zero_le _, Nat.zero_le _⟩) hD hS hA (fun ur5 H locs hr5 hP hD hS hzr5 => ?_)
                  subst hr5
                  rw [bx_uu] at hP hD
                  have hP : va_P D vwCl (va_pl L (va_up f r (.inl (k 0, 24, .inl (addR G z2 z3))))) H := hP
                  have hD : va_D A (va_pl L (va_up f r (.inl (k 0, 24, .inl (addR G z2 z3))))) := hD
                  refine zr_iinc (k := 3) (lv' := [(3, .int (zI (z3 + 1))), (0, .ref h), (1, .ref tx), (2, .int (zI (z2)))]) hx hb dX0_askEach_48 hl rfl (by decide) rfl (fun ls hl => ?_)
                  refine lv_goto (tgt := 21) hx hb dX0_askEach_51 (by decide) ?_
                  exact ih_21 (b + 1) (z3 + 1) ((addR G z2 z3)) (by omega) (by omega) (by first | exact ae_s1 hG hz2 hz3 (hb9.symm.trans (by assumption)) (by omega) | exact ae_s0 hG hz2 hz3 (hb9.symm.trans (by assumption))) (by omega) _ _ hP hD hS _ (lv_sub hl [1, 2, 3, 0] rfl)
              have hM := hone G z2 z3 (by omega) (by omega) (by omega)
              rcases id hc with hc9 | hc9 | hc9 | hc9 | hc9 | hc9
              · subst hc9
                refine vp_callSi (va_Run.run (va_runU (As := [.ref tx, .int (zI (z2)), .int (zI (z3))]) (rest := []) ⟨hx, hb, hml, hown, hts⟩ (hM.1 rfl) (va_cwA 3 hts gX0_askEach_X1_isOne_u34X1 rfl rfl rfl (hNW (.declares ⟨"Regionry$Expression", "isOne", "(LRegionry$Text;II)Z"⟩) (by decide +kernel)) (by decide +kernel) ⟨Nat.le_of_ble_eq_true rfl, Nat.le_of_ble_eq_true rfl⟩) (rc_preV hC hP (pl_recv hK hP hh ((va_up_ne _ _ (ne_k hfh hfr (by simp))).trans hfh) (ci := 0) (q := (RX1, TX1, 5)) rfl)) rfl rfl hl.1 rfl (lv_room (Nat.le_of_ble_eq_true rfl)) dX0_askEach_33 ⟨Nat.zero_le _, Nat.zero_le _⟩)) (fun r9 hr9 => ?_)
                subst hr9
                exact jn _ rfl
              · subst hc9
                refine vp_callSi (va_Run.run (va_runU (As := [.ref tx, .int (zI (z2)), .int (zI (z3))]) (rest := []) ⟨hx, hb, hml, hown, hts⟩ (hM.2.1 rfl) (va_cwA 3 hts gX0_askEach_X2_isOne_u34X2 rfl rfl rfl (hNW (.declares ⟨"Regionry$Expression", "isOne", "(LRegionry$Text;II)Z"⟩) (by decide +kernel)) (by decide +kernel) ⟨Nat.le_of_ble_eq_true rfl, Nat.le_of_ble_eq_true rfl⟩) (rc_preV hC hP (pl_recv hK hP hh ((va_up_ne _ _ (ne_k hfh hfr (by simp))).trans hfh) (ci := 1) (q := (RX2, TX2, 5)) rfl)) rfl rfl hl.1 rfl (lv_room (Nat.le_of_ble_eq_true rfl)) dX0_askEach_33 ⟨Nat.zero_le _, Nat.zero_le _⟩)) (fun r9 hr9 => ?_)
                subst hr9
                exact jn _ rfl
              · subst hc9
                refine vp_callSi (va_Run.run (va_runU (As := [.ref tx, .int (zI (z2)), .int (zI (z3))]) (rest := []) ⟨hx, hb, hml, hown, hts⟩ (hM.2.2.1 rfl) (va_cwA 3 hts gX0_askEach_X3_isOne_u34X3 rfl rfl rfl (hNW (.declares ⟨"Regionry$Expression", "isOne", "(LRegionry$Text;II)Z"⟩) (by decide +kernel)) (by decide +kernel) ⟨Nat.le_of_ble_eq_true rfl, Nat.le_of_ble_eq_true rfl⟩) (rc_preV hC hP (pl_recv hK hP hh ((va_up_ne _ _ (ne_k hfh hfr (by simp))).trans hfh) (ci := 2) (q := (RX3, TX3, 7)) rfl)) rfl rfl hl.1 rfl (lv_room (Nat.le_of_ble_eq_true rfl)) dX0_askEach_33 ⟨Nat.zero_le _, Nat.zero_le _⟩)) (fun r9 hr9 => ?_)
                subst hr9
                exact jn _ rfl
              · subst hc9
                refine vp_callSi (va_Run.run (va_runU (As := [.ref tx, .int (zI (z2)), .int (zI (z3))]) (rest := []) ⟨hx, hb, hml, hown, hts⟩ (hM.2.2.2.1 rfl) (va_cwA 3 hts gX0_askEach_X4_isOne_u34X4 rfl rfl rfl (hNW (.declares ⟨"Regionry$Expression", "isOne", "(LRegionry$Text;II)Z"⟩) (by decide +kernel)) (by decide +kernel) ⟨Nat.le_of_ble_eq_true rfl, Nat.le_of_ble_eq_true rfl⟩) (rc_preV hC hP (pl_recv hK hP hh ((va_up_ne _ _ (ne_k hfh hfr (by simp))).trans hfh) (ci := 3) (q := (RX4, TX4, 6)) rfl)) rfl rfl hl.1 rfl (lv_room (Nat.le_of_ble_eq_true rfl)) dX0_askEach_33 ⟨Nat.zero_le _, Nat.zero_le _⟩)) (fun r9 hr9 => ?_)
                subst hr9
                exact jn _ rfl
              · subst hc9
                refine vp_callSi (va_Run.run (va_runU (As := [.ref tx, .int (zI (z2)), .int (zI (z3))]) (rest := []) ⟨hx, hb, hml, hown, hts⟩ (hM.2.2.2.2.1 rfl) (va_cwA 3 hts gX0_askEach_X5_isOne_u34X5 rfl rfl rfl (hNW (.declares ⟨"Regionry$Expression", "isOne", "(LRegionry$Text;II)Z"⟩) (by decide +kernel)) (by decide +kernel) ⟨Nat.le_of_ble_eq_true rfl, Nat.le_of_ble_eq_true rfl⟩) (rc_preV hC hP (pl_recv hK hP hh ((va_up_ne _ _ (ne_k hfh hfr (by simp))).trans hfh) (ci := 4) (q := (RX5, TX5, 7)) rfl)) rfl rfl hl.1 rfl (lv_room (Nat.le_of_ble_eq_true rfl)) dX0_askEach_33 ⟨Nat.zero_le _, Nat.zero_le _⟩)) (fun r9 hr9 => ?_)
                subst hr9
                exact jn _ rfl
              · subst hc9
                refine vp_callSi (va_Run.run (va_runU (As := [.ref tx, .int (zI (z2)), .int (zI (z3))]) (rest := []) ⟨hx, hb, hml, hown, hts⟩ (hM.2.2.2.2.2 rfl) (va_cwA 3 hts gX0_askEach_X7_isOne_u34X7 rfl rfl rfl (hNW (.declares ⟨"Regionry$Expression", "isOne", "(LRegionry$Text;II)Z"⟩) (by decide +kernel)) (by decide +kernel) ⟨Nat.le_of_ble_eq_true rfl, Nat.le_of_ble_eq_true rfl⟩) (rc_preV hC hP (pl_recv hK hP hh ((va_up_ne _ _ (ne_k hfh hfr (by simp))).trans hfh) (ci := 6) (q := (RX7, TX7, 7)) rfl)) rfl rfl hl.1 rfl (lv_room (Nat.le_of_ble_eq_true rfl)) dX0_askEach_33 ⟨Nat.zero_le _, Nat.zero_le _⟩)) (fun r9 hr9 => ?_)
                subst hr9
                exact jn _ rfl
        exact cut_21 ((n + 1 - (z2 + 1) : Int).toNat + 1) (a + 1) (z2 + 1) (G) (by omega) (by omega) (ae_i hG) (by omega) _ _ hP hD hS _ (lv_sub hl [1, 2, 3, 0] rfl)
  exact cut_9 ((n - (0) : Int).toNat + 1) (0) (0) ((fa_fill (fun _ => zI 0) g 24)) (by omega) (by omega) (ae_0 P n g) (by omega) _ _ hP hD hS _ (lv_sub hl [1, 2, 0] rfl)
