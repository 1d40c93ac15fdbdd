set_option maxHeartbeats 4000000 in
set_option maxRecDepth 100000 in
theorem kX9_letter (l : Launch) (D : va_G) (k : Nat → ClassId) (L : List Nat) (f : Nat → va_E) (g : CG) (S : SA) (hR : cRep k L f g S) (hO : aOK S) (y : Nat) (hy : y < 6) (hc : sC S < 30) (n0 sz : Nat) : Met l yX9_letter wsX9_letter ({ frames := 4, cells := 5, slots := 55, locals := 77 } : Room) (va_Pc [.ref (gA g 0), .int (zI ((y : Int)))] (pPre D (tyL k) n0 (va_pl L f) sz)) (va_Qi (fun r9 u => r9 = zI (sC S : Int) ∧ ∃ (L2 : List Nat) (F : Nat → va_E) (g2 : CG), u = va_pl L2 F ∧ gA g2 0 = gA g 0 ∧ cRep k L2 F g2 (addS S 11 y y 0 1)) (pB D (va_pl L f) sz) (va_A (va_pl L f) sz)) 5 55 (va_A (va_pl L f) sz) := by
  refine Met.ofW (cc := cX9_letter) (maxL := 2) (ret := (some .int)) (by decide) rfl ?_
  intro p e s m args below meth c s₁ B hml hv
  obtain ⟨rfl, hsz, hn9, hP, hC, hD0⟩ := hv
  have hK := hC.1
  have hNW := hC.2.1
  have hx := B.exec
  have hb := B.bytes
  have hrt := B.returns
  have hts := atoms_spec (ws := wsX9_letter) B.pre
  have hown : s.vm.findClass RX9 = some m.cls := findClass_of_methodNamed B.named
  have hlocks := B.notSynchronized
  subst hsz
  obtain ⟨A, hAd⟩ : ∃ A, A = va_A (va_pl L f) s.heap.size := ⟨_, rfl⟩
  have hD := hD0.self (sz := s.heap.size)
  rw [← hAd] at hD
  have hA : ∀ q : Nat, s.heap.size ≤ q → A q := fun q h => by rw [hAd]; exact Or.inr h
  have hAn : ∀ q : Nat, A q → n0 ≤ q := fun q h => by
    rw [hAd] at h
    rcases h with ⟨k9, e9, hk9⟩ | h
    · exact hD0.2 k9 _ hk9
    · exact Nat.le_trans hn9 h
  have hS : va_S A s.heap s.heap [] := va_S.rf
  have hi_X2 : ∀ w ∈ u_ws RX2 TX2 5, w ∈ wsX9_letter := by decide +kernel
  have hi_X9 : ∀ w ∈ u_ws RX9 TX9 3, w ∈ wsX9_letter := by decide +kernel
  have hw_0 := hts (.classLink RX9 88 RX2) (by decide +kernel)
  have hw_1 := hts (.instantiable RX2 5) (by decide +kernel)
  have hw_2 := hts (.initialized RX2) (by decide +kernel)
  have hw_3 := hts (.fieldLink RX9 22 "Regionry" "count" "I") (by decide +kernel)
  have hw_4 := hts (.methodLink RX9 90 yX2_init) (by decide +kernel)
  have hw_5 := hts (.instanceMethod yX2_init) (by decide +kernel)
  have hl := lv_entry ([.ref (gA g 0), .int (zI ((y : Int)))]) (n := 2) (Nat.le_of_ble_eq_true rfl)
  rw [lg_entry_eq]
  generalize (lg_sl ([.ref (gA g 0), .int (zI ((y : Int)))]) ++ List.replicate (2 - (lg_sl ([.ref (gA g 0), .int (zI ((y : Int)))])).length) Slot.unset).toArray = ls at hl ⊢
  have hl : lv_has ls 2 [(0, .ref (gA g 0)), (1, .int (zI ((y : Int))))] := hl
  obtain ⟨Q, hQ⟩ : ∃ Q, Q = MQ below (va_Qi (fun r9 u => r9 = zI (sC S : Int) ∧ ∃ (L2 : List Nat) (F : Nat → va_E) (g2 : CG), u = va_pl L2 F ∧ gA g2 0 = gA g 0 ∧ cRep k L2 F g2 (addS S 11 y y 0 1)) (pB D (va_pl L f) s.heap.size) (va_A (va_pl L f) s.heap.size)) ([.ref (gA g 0), .int (zI ((y : Int)))] : List Value).toArray s 5 55 (va_A (va_pl L f) s.heap.size) := ⟨_, rfl⟩
  rw [← hQ]
  obtain ⟨⟨a0, a1, a2, a3, a4⟩, aL, ao, aM, aE, aX⟩ := id hR
  have hn0 := hO.1
  have hc0 := hO.2.2.2.1
  refine lv_iload_n hx hb dX9_letter_0 rfl (lv_at hl 1 rfl) ?_
  refine vp_callSi (va_Run.run (va_runS (As := [.int (zI ((y : Int)))]) (rest := []) ⟨hx, hb, hml, hown, hts⟩ (kX9_isLetter l D k L f ((y : Int)) (by omega)) (va_cwS 1 hts gX9_letter_X9_isLetter rfl rfl rfl (by decide +kernel) ⟨Nat.le_of_ble_eq_true rfl, Nat.le_of_ble_eq_true rfl⟩) (rc_preS hC hP) rfl rfl hl.1 rfl (lv_room (Nat.le_of_ble_eq_true rfl)) dX9_letter_1 ⟨Nat.zero_le _, Nat.zero_le _⟩)) (fun r1 hr1 => ?_)
  subst hr1
  refine zr_ifb_ne (tgt := 17) hx hb dX9_letter_4 (by decide) (fun c2 => ?_) (fun c2 => ?_)
  · refine lv_aload_n hx hb dX9_letter_17 rfl (lv_at hl 0 rfl) ?_
    refine zr_const hx hb dX9_letter_18 ?_
    refine pc_callv (va_runV (As := [.int (zI (1))]) (rest := []) ⟨hx, hb, hml, hown, hts⟩ (kX9_requireRoom l D k L f g S hR hO 1 (by omega) hc n0 _) (cwV 1 hts gX9_letter_X9_requireRoom rfl rfl rfl (by decide +kernel) ⟨Nat.le_of_ble_eq_true rfl, Nat.le_of_ble_eq_true rfl⟩) (pc_preV hC hP (Nat.le_trans hn9 hS.1) hD hAn (pl_recv hK hP (aL 0 (by decide)) a0 (ci := 8) (q := (RX9, TX9, 3)) rfl)) rfl rfl hl.1 rfl (lv_room (Nat.le_of_ble_eq_true rfl)) dX9_letter_19 ⟨Nat.zero_le _, Nat.zero_le _⟩) hD hS hA (fun ur3 H locs hr3 hP hD hS hzr3 => ?_)
    subst hr3
    refine lv_aload_n hx hb dX9_letter_22 rfl (lv_at hl 0 rfl) ?_
    refine pl_obj (ci := 1) (fs := [.int (0), .int (0), .null, .null, .int (0)]) (C := RX2) (T := TX2) (N := 5) hx hb hts hi_X2 tyX2 tyX2_ok hown hw_0 hw_1 hw_2 hK hP hD hS hA rfl (fun j hj => by rcases (show j = 0 ∨ j = 1 ∨ j = 2 ∨ j = 3 ∨ j = 4 by omega) with rfl | rfl | rfl | rfl | rfl <;> rfl) (Nat.le_of_ble_eq_true rfl) (Nat.le_of_ble_eq_true rfl) dX9_letter_23 (fun q4 H hq4 hP hD hS => ?_)
    have hP : va_P D vwCl (va_pl (L ++ [q4]) (va_up f q4 (.inr (1, [.int (0), .int (0), .null, .null, .int (0)])))) H := hP
    have hD : va_D A (va_pl (L ++ [q4]) (va_up f q4 (.inr (1, [.int (0), .int (0), .null, .null, .int (0)])))) := hD
    refine lv_dup hx hb dX9_letter_26 rfl ?_
    refine lv_aload_n hx hb dX9_letter_27 rfl (lv_at hl 0 rfl) ?_
    refine pl_get (ci := 8) (v := .int (zI ((sC S : Int)))) (C := RX9) (T := TX9) (N := 3) hx hb hts hi_X9 hown hK hP (List.mem_append_left _ (aL 0 (by decide))) ((va_up_ne _ _ (ne_new (aL 0 (by decide)) hq4)).trans a0) rfl 2 (by decide) hw_3 (fun _ h9 => h9) rfl dX9_letter_28 ?_
    refine lv_iload_n hx hb dX9_letter_31 rfl (lv_at hl 1 rfl) ?_
    refine pc_callv (va_runI (As := [.int (zI ((sC S : Int))), .int (zI ((y : Int)))]) (rest := [.ref q4, .ref (gA g 0)]) ⟨hx, hb, hml, hown, hts⟩ (kX2_init l D k (L ++ [q4]) (va_up f q4 (.inr (1, [.int (0), .int (0), .null, .null, .int (0)]))) q4 (List.mem_append_right _ (List.mem_singleton.mpr rfl)) (va_up_self _ _ _) ((sC S : Int)) (by omega) (zI ((y : Int))) n0 _) (cwI 2 hts gX9_letter_X2_init rfl rfl rfl hw_2 hw_4 hw_5 rfl (by decide +kernel) ⟨Nat.le_of_ble_eq_true rfl, Nat.le_of_ble_eq_true rfl⟩) (pc_preS hC hP (Nat.le_trans hn9 hS.1) hD hAn) rfl rfl hl.1 rfl (lv_room (Nat.le_of_ble_eq_true rfl)) dX9_letter_32 ⟨Nat.le_of_ble_eq_true rfl, Nat.le_of_ble_eq_true rfl⟩) hD hS hA (fun ur5 H locs hr5 hP hD hS hzr5 => ?_)
    obtain ⟨qar5, hqar5, rar5, hrar5, qbr5, hqbr5, rbr5, hrbr5, Fr5, rfl, hFhr5, hFar5, hFbr5, hFcr5, hFdr5, hFor5⟩ := hr5
    refine pc_calli (va_runV (As := [.ref q4]) (rest := []) ⟨hx, hb, hml, hown, hts⟩ (kX9_keep l D k (L ++ [q4] ++ [qar5] ++ [rar5] ++ [qbr5] ++ [rbr5]) Fr5 (gA g 0) (gA g 1) (gA g 4) q4 (sC S) qar5 qbr5 ((gE g)) (zI (1)) (zI 0 ||| pw ((sC S : Int)).toNat) (List.mem_append_left _ (List.mem_append_left _ (List.mem_append_left _ (List.mem_append_left _ (List.mem_append_left _ (aL 0 (by decide))))))) ((hFor5 _ (List.mem_append_left _ (aL 0 (by decide))) (ne_new (aL 0 (by decide)) hq4)).trans ((va_up_ne _ _ (ne_new (aL 0 (by decide)) hq4)).trans a0)) (List.mem_append_left _ (List.mem_append_left _ (List.mem_append_left _ (List.mem_append_left _ (List.mem_append_left _ (aL 4 (by decide))))))) ((hFor5 _ (List.mem_append_left _ (aL 4 (by decide))) (ne_new (aL 4 (by decide)) hq4)).trans ((va_up_ne _ _ (ne_new (aL 4 (by decide)) hq4)).trans a4)) hc (List.mem_append_left _ (List.mem_append_left _ (List.mem_append_left _ (List.mem_append_left _ (List.mem_append_right _ (List.mem_singleton.mpr rfl)))))) ⟨1, [.int ((zI ((y : Int))))], by unfold exC; omega, hFhr5⟩ n0 _) (cwV 1 hts gX9_letter_X9_keep rfl rfl rfl (by decide +kernel) ⟨Nat.le_of_ble_eq_true rfl, Nat.le_of_ble_eq_true rfl⟩) (pc_preV hC hP (Nat.le_trans hn9 hS.1) hD hAn (pl_recv hK hP (List.mem_append_left _ (List.mem_append_left _ (List.mem_append_left _ (List.mem_append_left _ (List.mem_append_left _ (aL 0 (by decide))))))) ((hFor5 _ (List.mem_append_left _ (aL 0 (by decide))) (ne_new (aL 0 (by decide)) hq4)).trans ((va_up_ne _ _ (ne_new (aL 0 (by decide)) hq4)).trans a0)) (ci := 8) (q := (RX9, TX9, 3)) rfl)) rfl rfl hl.1 rfl (lv_room (Nat.le_of_ble_eq_true rfl)) dX9_letter_35 ⟨Nat.le_of_ble_eq_true rfl, Nat.le_of_ble_eq_true rfl⟩) hD hS hA (fun r6 ur6 H locs hr6 hP hD hS hzr6 => ?_)
    obtain ⟨rfl, rfl⟩ := hr6
    rw [hQ]
    exact pc_iret hx hb hrt hP (by rw [← hAd]; exact hD) (by rw [← hAd]; exact hS) (by refine ⟨rfl, ?_⟩; exact addP hR hO hc hrar5 hrbr5 (by decide) hFhr5 nodeV_11 hFar5 hFbr5 hFcr5 hFdr5 (fun a9 ha9 => ((hFor5 _ (List.mem_append_left _ ha9) (ne_new ha9 hq4)).trans (va_up_ne _ _ (ne_new ha9 hq4)))) (needL hc (Or.inl rfl))) dX9_letter_38 hlocks
  · exact absurd (plB_t (n := 6) (z := (y : Int)) (by omega)) (by simp [*])

set_option maxHeartbeats 4000000 in
set_option maxRecDepth 100000 in
theorem kX9_letter_x (l : Launch) (D : va_G) (k : Nat → ClassId) (L : List Nat) (f : Nat → va_E) (g : CG) (S : SA) (hR : cRep k L f g S) (hO : aOK S) (z : Int) (hz : -2147483648 ≤ z ∧ z < 2147483648) (hz2 : ¬ (0 ≤ z ∧ z < 6)) (hlt : l.stackTraces = false) (n0 sz : Nat) : vx_Met l yX9_letter wsX9_letter ({ frames := 6, cells := 1, slots := 6, locals := 82 } : Room) (va_Pc [.ref (gA g 0), .int (zI (z))] (xPre D (tyL k) n0 (va_pl L f) sz)) (va_Qv (fun _ => False) (pB D (va_pl L f) sz) (va_A (va_pl L f) sz)) (xX D (va_pl L f) sz (fun E u => E = "java/lang/IllegalArgumentException" ∧ u = va_pl L f)) 1 6 (va_A (va_pl L f) sz) := by
  refine vx_ofW (cc := cX9_letter) (maxL := 2) (ret := (some .int)) (by decide) rfl ?_
  intro p e s m args below meth c s₁ B hml hno hv
  obtain ⟨rfl, ⟨hsz, hn9, hP, hC, hD0⟩, hX⟩ := hv
  have hK := hC.1
  have hNW := hC.2.1
  have hx := B.exec
  have hb := B.bytes
  have hrt := B.returns
  have hts := atoms_spec (ws := wsX9_letter) B.pre
  have hown : s.vm.findClass RX9 = some m.cls := findClass_of_methodNamed B.named
  have hlocks := B.notSynchronized
  subst hsz
  obtain ⟨A, hAd⟩ : ∃ A, A = va_A (va_pl L f) s.heap.size := ⟨_, rfl⟩
  have hD := hD0.self (sz := s.heap.size)
  rw [← hAd] at hD
  have hA : ∀ q : Nat, s.heap.size ≤ q → A q := fun q h => by rw [hAd]; exact Or.inr h
  have hAn : ∀ q : Nat, A q → n0 ≤ q := fun q h => by
    rw [hAd] at h
    rcases h with ⟨k9, e9, hk9⟩ | h
    · exact hD0.2 k9 _ hk9
    · exact Nat.le_trans hn9 h
  have hS : va_S A s.heap s.heap [] := va_S.rf
  have hw_0 := hts (.classLink RX9 48 "java/lang/IllegalArgumentException") (by decide +kernel)
  have hw_1 := hts (.initialized "java/lang/IllegalArgumentException") (by decide +kernel)
  have hl := lv_entry ([.ref (gA g 0), .int (zI (z))]) (n := 2) (Nat.le_of_ble_eq_true rfl)
  rw [lg_entry_eq]
  generalize (lg_sl ([.ref (gA g 0), .int (zI (z))]) ++ List.replicate (2 - (lg_sl ([.ref (gA g 0), .int (zI (z))])).length) Slot.unset).toArray = ls at hl ⊢
  have hl : lv_has ls 2 [(0, .ref (gA g 0)), (1, .int (zI (z)))] := hl
  obtain ⟨Q, hQ⟩ : ∃ Q, Q = vx_MQ below (va_Qv (fun _ => False) (pB D (va_pl L f) s.heap.size) (va_A (va_pl L f) s.heap.size)) (xX D (va_pl L f) s.heap.size (fun E u => E = "java/lang/IllegalArgumentException" ∧ u = va_pl L f)) ([.ref (gA g 0), .int (zI (z))] : List Value).toArray s 1 6 (va_A (va_pl L f) s.heap.size) := ⟨_, rfl⟩
  rw [← hQ]
  obtain ⟨⟨a0, a1, a2, a3, a4⟩, aL, ao, aM, aE, aX⟩ := id hR
  have hn0 := hO.1
  have hc0 := hO.2.2.2.1
  refine lv_iload_n hx hb dX9_letter_0 rfl (lv_at hl 1 rfl) ?_
  refine vp_callSi (va_Run.run (va_runS (As := [.int (zI (z))]) (rest := []) ⟨hx, hb, hml, hown, hts⟩ (kX9_isLetter l D k L f (z) (by omega)) (va_cwS 1 hts gX9_letter_X9_isLetter rfl rfl rfl (by decide +kernel) ⟨Nat.le_of_ble_eq_true rfl, Nat.le_of_ble_eq_true rfl⟩) (rc_preS hC hP) rfl rfl hl.1 rfl (lv_room (Nat.le_of_ble_eq_true rfl)) dX9_letter_1 ⟨Nat.zero_le _, Nat.zero_le _⟩)) (fun r1 hr1 => ?_)
  subst hr1
  refine zr_ifb_ne (tgt := 17) hx hb dX9_letter_4 (by decide) (fun c2 => ?_) (fun c2 => ?_)
  · exact absurd (plB_f hz2) (by simp [*])
  · rw [hQ]
    exact px_throw (own := RX9) (cls := "java/lang/IllegalArgumentException") (text := "no such letter") (ik := 48) (is := 82) (ic := 52) hx hb hlt hown (by decide) hw_0 hw_1 (by decide) hX (px_hat hts hNW hX (by decide +kernel) (by decide +kernel) (by decide +kernel)) (by decide +kernel) hP (by rw [← hAd]; exact hD) (by rw [← hAd]; exact hS) (by rw [← hAd]; exact hAn) (hl.1.trans hml.symm) dX9_letter_7 dX9_letter_10 dX9_letter_11 dX9_letter_13 dX9_letter_16 hno (Nat.le_of_ble_eq_true rfl) (Nat.le_of_ble_eq_true rfl) (Nat.le_of_ble_eq_true rfl) (Nat.le_of_ble_eq_true rfl) hlocks (Nat.le_of_ble_eq_true rfl) (Nat.le_of_ble_eq_true rfl) (⟨rfl, rfl⟩)

set_option maxHeartbeats 4000000 in
set_option maxRecDepth 100000 in
theorem kX9_letter_x2 (l : Launch) (D : va_G) (k : Nat → ClassId) (L : List Nat) (f : Nat → va_E) (g : CG) (S : SA) (hR : cRep k L f g S) (hO : aOK S) (y : Nat) (hy : y < 6) (hc : 30 ≤ sC S ∨ 6 < (1 : Int)) (hlt : l.stackTraces = false) (n0 sz : Nat) : vx_Met l yX9_letter wsX9_letter ({ frames := 7, cells := 1, slots := 6, locals := 103 } : Room) (va_Pc [.ref (gA g 0), .int (zI ((y : Int)))] (xPre D (tyL k) n0 (va_pl L f) sz)) (va_Qv (fun _ => False) (pB D (va_pl L f) sz) (va_A (va_pl L f) sz)) (xX D (va_pl L f) sz (fun E u => E = "java/lang/IllegalStateException" ∧ u = va_pl L f)) 1 6 (va_A (va_pl L f) sz) := by
  refine vx_ofW (cc := cX9_letter) (maxL := 2) (ret := (some .int)) (by decide) rfl ?_
  intro p e s m args below meth c s₁ B hml hno hv
  obtain ⟨rfl, ⟨hsz, hn9, hP, hC, hD0⟩, hX⟩ := hv
  have hK := hC.1
  have hNW := hC.2.1
  have hx := B.exec
  have hb := B.bytes
  have hrt := B.returns
  have hts := atoms_spec (ws := wsX9_letter) B.pre
  have hown : s.vm.findClass RX9 = some m.cls := findClass_of_methodNamed B.named
  have hlocks := B.notSynchronized
  subst hsz
  obtain ⟨A, hAd⟩ : ∃ A, A = va_A (va_pl L f) s.heap.size := ⟨_, rfl⟩
  have hD := hD0.self (sz := s.heap.size)
  rw [← hAd] at hD
  have hA : ∀ q : Nat, s.heap.size ≤ q → A q := fun q h => by rw [hAd]; exact Or.inr h
  have hAn : ∀ q : Nat, A q → n0 ≤ q := fun q h => by
    rw [hAd] at h
    rcases h with ⟨k9, e9, hk9⟩ | h
    · exact hD0.2 k9 _ hk9
    · exact Nat.le_trans hn9 h
  have hS : va_S A s.heap s.heap [] := va_S.rf
  have hl := lv_entry ([.ref (gA g 0), .int (zI ((y : Int)))]) (n := 2) (Nat.le_of_ble_eq_true rfl)
  rw [lg_entry_eq]
  generalize (lg_sl ([.ref (gA g 0), .int (zI ((y : Int)))]) ++ List.replicate (2 - (lg_sl ([.ref (gA g 0), .int (zI ((y : Int)))])).length) Slot.unset).toArray = ls at hl ⊢
  have hl : lv_has ls 2 [(0, .ref (gA g 0)), (1, .int (zI ((y : Int))))] := hl
  obtain ⟨Q, hQ⟩ : ∃ Q, Q = vx_MQ below (va_Qv (fun _ => False) (pB D (va_pl L f) s.heap.size) (va_A (va_pl L f) s.heap.size)) (xX D (va_pl L f) s.heap.size (fun E u => E = "java/lang/IllegalStateException" ∧ u = va_pl L f)) ([.ref (gA g 0), .int (zI ((y : Int)))] : List Value).toArray s 1 6 (va_A (va_pl L f) s.heap.size) := ⟨_, rfl⟩
  rw [← hQ]
  obtain ⟨⟨a0, a1, a2, a3, a4⟩, aL, ao, aM, aE, aX⟩ := id hR
  have hn0 := hO.1
  have hc0 := hO.2.2.2.1
  refine lv_iload_n hx hb dX9_letter_0 rfl (lv_at hl 1 rfl) ?_
  refine vp_callSi (va_Run.run (va_runS (As := [.int (zI ((y : Int)))]) (rest := []) ⟨hx, hb, hml, hown, hts⟩ (kX9_isLetter l D k L f ((y : Int)) (by omega)) (va_cwS 1 hts gX9_letter_X9_isLetter rfl rfl rfl (by decide +kernel) ⟨Nat.le_of_ble_eq_true rfl, Nat.le_of_ble_eq_true rfl⟩) (rc_preS hC hP) rfl rfl hl.1 rfl (lv_room (Nat.le_of_ble_eq_true rfl)) dX9_letter_1 ⟨Nat.zero_le _, Nat.zero_le _⟩)) (fun r1 hr1 => ?_)
  subst hr1
  refine zr_ifb_ne (tgt := 17) hx hb dX9_letter_4 (by decide) (fun c2 => ?_) (fun c2 => ?_)
  · refine lv_aload_n hx hb dX9_letter_17 rfl (lv_at hl 0 rfl) ?_
    refine zr_const hx hb dX9_letter_18 ?_
    rw [hQ]
    exact px_outv (vx_runV (As := [.int (zI (1))]) (rest := []) ⟨hx, hb, hml, hown, hts⟩ (kX9_requireRoom_x l D k L f g S hR hO 1 (by omega) hc hlt n0 _) (cwV 1 hts gX9_letter_X9_requireRoom rfl rfl rfl (by decide +kernel) ⟨Nat.le_of_ble_eq_true rfl, Nat.le_of_ble_eq_true rfl⟩) (xc_preV hC hX hP (Nat.le_trans hn9 hS.1) hD hS hAn (pl_recv hK hP (aL 0 (by decide)) a0 (ci := 8) (q := (RX9, TX9, 3)) rfl)) rfl rfl hl.1 rfl (lv_room (Nat.le_of_ble_eq_true rfl)) dX9_letter_19 ⟨Nat.le_of_ble_eq_true rfl, Nat.le_of_ble_eq_true rfl⟩) (by rw [← hAd]; exact hD) (by rw [← hAd]; exact hS) hlocks hno (Nat.le_of_ble_eq_true rfl) (Nat.le_of_ble_eq_true rfl) (fun E u h => h)
  · exact absurd (plB_t (n := 6) (z := (y : Int)) (by omega)) (by simp [*])

set_option maxHeartbeats 4000000 in
set_option maxRecDepth 100000 in
theorem kX9_marked (l : Launch) (D : va_G) (k : Nat → ClassId) (L : List Nat) (f : Nat → va_E) (g : CG) (S : SA) (hR : cRep k L f g S) (hO : aOK S) (z : Int) (hz : 0 ≤ z ∧ z < 4) (hc : sC S < 30) (n0 sz : Nat) : Met l yX9_marked wsX9_marked ({ frames := 4, cells := 5, slots := 55, locals := 77 } : Room) (va_Pc [.ref (gA g 0), .int (zI (z))] (pPre D (tyL k) n0 (va_pl L f) sz)) (va_Qi (fun r9 u => r9 = zI (sC S : Int) ∧ ∃ (L2 : List Nat) (F : Nat → va_E) (g2 : CG), u = va_pl L2 F ∧ gA g2 0 = gA g 0 ∧ cRep k L2 F g2 (addS S 12 z.toNat z.toNat 0 1)) (pB D (va_pl L f) sz) (va_A (va_pl L f) sz)) 5 55 (va_A (va_pl L f) sz) := by
  refine Met.ofW (cc := cX9_marked) (maxL := 3) (ret := (some .int)) (by decide) rfl ?_
  intro p e s m args below meth c s₁ B hml hv
  obtain ⟨rfl, hsz, hn9, hP, hC, hD0⟩ := hv
  have hK := hC.1
  have hNW := hC.2.1
  have hx := B.exec
  have hb := B.bytes
  have hrt := B.returns
  have hts := atoms_spec (ws := wsX9_marked) B.pre
  have hown : s.vm.findClass RX9 = some m.cls := findClass_of_methodNamed B.named
  have hlocks := B.notSynchronized
  subst hsz
  obtain ⟨A, hAd⟩ : ∃ A, A = va_A (va_pl L f) s.heap.size := ⟨_, rfl⟩
  have hD := hD0.self (sz := s.heap.size)
  rw [← hAd] at hD
  have hA : ∀ q : Nat, s.heap.size ≤ q → A q := fun q h => by rw [hAd]; exact Or.inr h
  have hAn : ∀ q : Nat, A q → n0 ≤ q := fun q h => by
    rw [hAd] at h
    rcases h with ⟨k9, e9, hk9⟩ | h
    · exact hD0.2 k9 _ hk9
    · exact Nat.le_trans hn9 h
  have hS : va_S A s.heap s.heap [] := va_S.rf
  have hi_X9 : ∀ w ∈ u_ws RX9 TX9 3, w ∈ wsX9_marked := by decide +kernel
  have hi_X1 : ∀ w ∈ u_ws RX1 TX1 5, w ∈ wsX9_marked := by decide +kernel
  have hw_0 := hts (.fieldLink RX9 12 "Regionry" "text" "LRegionry$Text;") (by decide +kernel)
  have hw_1 := hts (.classLink RX9 96 RX1) (by decide +kernel)
  have hw_2 := hts (.instantiable RX1 5) (by decide +kernel)
  have hw_3 := hts (.initialized RX1) (by decide +kernel)
  have hw_4 := hts (.fieldLink RX9 22 "Regionry" "count" "I") (by decide +kernel)
  have hw_5 := hts (.methodLink RX9 98 yX1_init) (by decide +kernel)
  have hw_6 := hts (.instanceMethod yX1_init) (by decide +kernel)
  have hl := lv_entry ([.ref (gA g 0), .int (zI (z))]) (n := 3) (Nat.le_of_ble_eq_true rfl)
  rw [lg_entry_eq]
  generalize (lg_sl ([.ref (gA g 0), .int (zI (z))]) ++ List.replicate (3 - (lg_sl ([.ref (gA g 0), .int (zI (z))])).length) Slot.unset).toArray = ls at hl ⊢
  have hl : lv_has ls 3 [(0, .ref (gA g 0)), (1, .int (zI (z)))] := hl
  obtain ⟨Q, hQ⟩ : ∃ Q, Q = MQ below (va_Qi (fun r9 u => r9 = zI (sC S : Int) ∧ ∃ (L2 : List Nat) (F : Nat → va_E) (g2 : CG), u = va_pl L2 F ∧ gA g2 0 = gA g 0 ∧ cRep k L2 F g2 (addS S 12 z.toNat z.toNat 0 1)) (pB D (va_pl L f) s.heap.size) (va_A (va_pl L f) s.heap.size)) ([.ref (gA g 0), .int (zI (z))] : List Value).toArray s 5 55 (va_A (va_pl L f) s.heap.size) := ⟨_, rfl⟩
  rw [← hQ]
  obtain ⟨⟨a0, a1, a2, a3, a4⟩, aL, ao, aM, aE, aX⟩ := id hR
  have hn0 := hO.1
  have hc0 := hO.2.2.2.1
  refine lv_aload_n hx hb dX9_marked_0 rfl (lv_at hl 0 rfl) ?_
  refine pl_get (ci := 8) (v := .ref (gA g 1)) (C := RX9) (T := TX9) (N := 3) hx hb hts hi_X9 hown hK hP (aL 0 (by decide)) a0 rfl 0 (by decide) hw_0 (fun _ h9 => h9) rfl dX9_marked_1 ?_
  refine lv_iload_n hx hb dX9_marked_4 rfl (lv_at hl 1 rfl) ?_
  refine va_csr (va_Run.run (va_runV (As := [.int (zI (z))]) (rest := []) ⟨hx, hb, hml, hown, hts⟩ (kX8_marksOf l D k L f (gA g 1) (gA g 2) (gA g 3) (sN S) (sT S) (aL 1 (by decide)) a1 (aL 2 (by decide)) a2 hn0 (fun j => gA g (5 + j)) (fun j => gA g (9 + j)) (gM g) (sR S) (aL 3 (by decide)) a3 (fun j hj => (aM j hj).1) (fun j hj => (aM j hj).2.1) (fun j hj => (aM j hj).2.2.1) (fun j hj => (aM j hj).2.2.2.1) (fun j hj => (aM j hj).2.2.2.2.1) (cR_inj hR) (cR_lm hR) z (by omega)) (cwV 1 hts gX9_marked_X8_marksOf rfl rfl rfl (by decide +kernel) ⟨Nat.le_of_ble_eq_true rfl, Nat.le_of_ble_eq_true rfl⟩) (rc_preV hC hP (pl_recv hK hP (aL 1 (by decide)) a1 (ci := 7) (q := (RX8, TX8, 3)) rfl)) rfl rfl hl.1 rfl (lv_room (Nat.le_of_ble_eq_true rfl)) dX9_marked_5 ⟨Nat.zero_le _, Nat.zero_le _⟩)) (fun r1 hr1 => ?_)
  subst hr1
  refine lv_astore_n (lv' := [(2, .ref (gA g (5 + z.toNat))), (0, .ref (gA g 0)), (1, .int (zI (z)))]) hx hb dX9_marked_8 rfl hl (by decide) rfl (fun ls hl => ?_)
  refine lv_aload_n hx hb dX9_marked_9 rfl (lv_at hl 1 rfl) ?_
  refine zr_const hx hb dX9_marked_10 ?_
  refine pc_callv (va_runV (As := [.int (zI (1))]) (rest := []) ⟨hx, hb, hml, hown, hts⟩ (kX9_requireRoom l D k L f g S hR hO 1 (by omega) hc n0 _) (cwV 1 hts gX9_marked_X9_requireRoom rfl rfl rfl (by decide +kernel) ⟨Nat.le_of_ble_eq_true rfl, Nat.le_of_ble_eq_true rfl⟩) (pc_preV hC hP (Nat.le_trans hn9 hS.1) hD hAn (pl_recv hK hP (aL 0 (by decide)) a0 (ci := 8) (q := (RX9, TX9, 3)) rfl)) rfl rfl hl.1 rfl (lv_room (Nat.le_of_ble_eq_true rfl)) dX9_marked_11 ⟨Nat.zero_le _, Nat.zero_le _⟩) hD hS hA (fun ur2 H locs hr2 hP hD hS hzr2 => ?_)
  subst hr2
  refine lv_aload_n hx hb dX9_marked_14 rfl (lv_at hl 1 rfl) ?_
  refine pl_obj (ci := 0) (fs := [.int (0), .int (0), .null, .null, .null]) (C := RX1) (T := TX1) (N := 5) hx hb hts hi_X1 tyX1 tyX1_ok hown hw_1 hw_2 hw_3 hK hP hD hS hA rfl (fun j hj => by rcases (show j = 0 ∨ j = 1 ∨ j = 2 ∨ j = 3 ∨ j = 4 by omega) with rfl | rfl | rfl | rfl | rfl <;> rfl) (Nat.le_of_ble_eq_true rfl) (Nat.le_of_ble_eq_true rfl) dX9_marked_15 (fun q3 H hq3 hP hD hS => ?_)
  have hP : va_P D vwCl (va_pl (L ++ [q3]) (va_up f q3 (.inr (0, [.int (0), .int (0), .null, .null, .null])))) H := hP
  have hD : va_D A (va_pl (L ++ [q3]) (va_up f q3 (.inr (0, [.int (0), .int (0), .null, .null, .null])))) := hD
  refine lv_dup hx hb dX9_marked_18 rfl ?_
  refine lv_aload_n hx hb dX9_marked_19 rfl (lv_at hl 1 rfl) ?_
  refine pl_get (ci := 8) (v := .int (zI ((sC S : Int)))) (C := RX9) (T := TX9) (N := 3) hx hb hts hi_X9 hown hK hP (List.mem_append_left _ (aL 0 (by decide))) ((va_up_ne _ _ (ne_new (aL 0 (by decide)) hq3)).trans a0) rfl 2 (by decide) hw_4 (fun _ h9 => h9) rfl dX9_marked_20 ?_
  refine lv_aload_n hx hb dX9_marked_23 rfl (lv_at hl 0 rfl) ?_
  refine pc_callv (va_runI (As := [.int (zI ((sC S : Int))), .ref (gA g (5 + z.toNat))]) (rest := [.ref q3, .ref (gA g 0)]) ⟨hx, hb, hml, hown, hts⟩ (kX1_init l D k (L ++ [q3]) (va_up f q3 (.inr (0, [.int (0), .int (0), .null, .null, .null]))) q3 (List.mem_append_right _ (List.mem_singleton.mpr rfl)) (va_up_self _ _ _) ((sC S : Int)) (by omega) ((gA g (5 + z.toNat))) n0 _) (cwI 2 hts gX9_marked_X1_init rfl rfl rfl hw_3 hw_5 hw_6 rfl (by decide +kernel) ⟨Nat.le_of_ble_eq_true rfl, Nat.le_of_ble_eq_true rfl⟩) (pc_preS hC hP (Nat.le_trans hn9 hS.1) hD hAn) rfl rfl hl.1 rfl (lv_room (Nat.le_of_ble_eq_true rfl)) dX9_marked_24 ⟨Nat.le_of_ble_eq_true rfl, Nat.le_of_ble_eq_true rfl⟩) hD hS hA (fun ur4 H locs hr4 hP hD hS hzr4 => ?_)
  obtain ⟨qar4, hqar4, rar4, hrar4, qbr4, hqbr4, rbr4, hrbr4, Fr4, rfl, hFhr4, hFar4, hFbr4, hFcr4, hFdr4, hFor4⟩ := hr4
  refine pc_calli (va_runV (As := [.ref q3]) (rest := []) ⟨hx, hb, hml, hown, hts⟩ (kX9_keep l D k (L ++ [q3] ++ [qar4] ++ [rar4] ++ [qbr4] ++ [rbr4]) Fr4 (gA g 0) (gA g 1) (gA g 4) q3 (sC S) qar4 qbr4 ((gE g)) (zI (1)) (zI 0 ||| pw ((sC S : Int)).toNat) (List.mem_append_left _ (List.mem_append_left _ (List.mem_append_left _ (List.mem_append_left _ (List.mem_append_left _ (aL 0 (by decide))))))) ((hFor4 _ (List.mem_append_left _ (aL 0 (by decide))) (ne_new (aL 0 (by decide)) hq3)).trans ((va_up_ne _ _ (ne_new (aL 0 (by decide)) hq3)).trans a0)) (List.mem_append_left _ (List.mem_append_left _ (List.mem_append_left _ (List.mem_append_left _ (List.mem_append_left _ (aL 4 (by decide))))))) ((hFor4 _ (List.mem_append_left _ (aL 4 (by decide))) (ne_new (aL 4 (by decide)) hq3)).trans ((va_up_ne _ _ (ne_new (aL 4 (by decide)) hq3)).trans a4)) hc (List.mem_append_left _ (List.mem_append_left _ (List.mem_append_left _ (List.mem_append_left _ (List.mem_append_right _ (List.mem_singleton.mpr rfl)))))) ⟨0, [.ref (gA g (5 + z.toNat))], by unfold exC; omega, hFhr4⟩ n0 _) (cwV 1 hts gX9_marked_X9_keep rfl rfl rfl (by decide +kernel) ⟨Nat.le_of_ble_eq_true rfl, Nat.le_of_ble_eq_true rfl⟩) (pc_preV hC hP (Nat.le_trans hn9 hS.1) hD hAn (pl_recv hK hP (List.mem_append_left _ (List.mem_append_left _ (List.mem_append_left _ (List.mem_append_left _ (List.mem_append_left _ (aL 0 (by decide))))))) ((hFor4 _ (List.mem_append_left _ (aL 0 (by decide))) (ne_new (aL 0 (by decide)) hq3)).trans ((va_up_ne _ _ (ne_new (aL 0 (by decide)) hq3)).trans a0)) (ci := 8) (q := (RX9, TX9, 3)) rfl)) rfl rfl hl.1 rfl (lv_room (Nat.le_of_ble_eq_true rfl)) dX9_marked_27 ⟨Nat.le_of_ble_eq_true rfl, Nat.le_of_ble_eq_true rfl⟩) hD hS hA (fun r5 ur5 H locs hr5 hP hD hS hzr5 => ?_)
  obtain ⟨rfl, rfl⟩ := hr5
  rw [hQ]
  exact pc_iret hx hb hrt hP (by rw [← hAd]; exact hD) (by rw [← hAd]; exact hS) (by refine ⟨rfl, ?_⟩; exact addP hR hO hc hrar4 hrbr4 (by decide) hFhr4 nodeV_12 hFar4 hFbr4 hFcr4 hFdr4 (fun a9 ha9 => ((hFor4 _ (List.mem_append_left _ ha9) (ne_new ha9 hq3)).trans (va_up_ne _ _ (ne_new ha9 hq3)))) (needL hc (Or.inr rfl))) dX9_marked_30 hlocks

set_option maxHeartbeats 4000000 in
set_option maxRecDepth 100000 in
theorem kX9_marked_x (l : Launch) (D : va_G) (k : Nat → ClassId) (L : List Nat) (f : Nat → va_E) (g : CG) (S : SA) (hR : cRep k L f g S) (hO : aOK S) (z : Int) (hz : -2147483648 ≤ z ∧ z < 2147483648) (hz2 : ¬ (0 ≤ z ∧ z < 4)) (hlt : l.stackTraces = false) (n0 sz : Nat) : vx_Met l yX9_marked wsX9_marked ({ frames := 7, cells := 1, slots := 6, locals := 103 } : Room) (va_Pc [.ref (gA g 0), .int (zI (z))] (xPre D (tyL k) n0 (va_pl L f) sz)) (va_Qv (fun _ => False) (pB D (va_pl L f) sz) (va_A (va_pl L f) sz)) (xX D (va_pl L f) sz (fun E u => E = "java/lang/IndexOutOfBoundsException" ∧ u = va_pl L f)) 1 6 (va_A (va_pl L f) sz) := by
  refine vx_ofW (cc := cX9_marked) (maxL := 3) (ret := (some .int)) (by decide) rfl ?_
  intro p e s m args below meth c s₁ B hml hno hv
  obtain ⟨rfl, ⟨hsz, hn9, hP, hC, hD0⟩, hX⟩ := hv
  have hK := hC.1
  have hNW := hC.2.1
  have hx := B.exec
  have hb := B.bytes
  have hrt := B.returns
  have hts := atoms_spec (ws := wsX9_marked) B.pre
  have hown : s.vm.findClass RX9 = some m.cls := findClass_of_methodNamed B.named
  have hlocks := B.notSynchronized
  subst hsz
  obtain ⟨A, hAd⟩ : ∃ A, A = va_A (va_pl L f) s.heap.size := ⟨_, rfl⟩
  have hD := hD0.self (sz := s.heap.size)
  rw [← hAd] at hD
  have hA : ∀ q : Nat, s.heap.size ≤ q → A q := fun q h => by rw [hAd]; exact Or.inr h
  have hAn : ∀ q : Nat, A q → n0 ≤ q := fun q h => by
    rw [hAd] at h
    rcases h with ⟨k9, e9, hk9⟩ | h
    · exact hD0.2 k9 _ hk9
    · exact Nat.le_trans hn9 h
  have hS : va_S A s.heap s.heap [] := va_S.rf
  have hi_X9 : ∀ w ∈ u_ws RX9 TX9 3, w ∈ wsX9_marked := by decide +kernel
  have hw_0 := hts (.fieldLink RX9 12 "Regionry" "text" "LRegionry$Text;") (by decide +kernel)
  have hl := lv_entry ([.ref (gA g 0), .int (zI (z))]) (n := 3) (Nat.le_of_ble_eq_true rfl)
  rw [lg_entry_eq]
  generalize (lg_sl ([.ref (gA g 0), .int (zI (z))]) ++ List.replicate (3 - (lg_sl ([.ref (gA g 0), .int (zI (z))])).length) Slot.unset).toArray = ls at hl ⊢
  have hl : lv_has ls 3 [(0, .ref (gA g 0)), (1, .int (zI (z)))] := hl
  obtain ⟨Q, hQ⟩ : ∃ Q, Q = vx_MQ below (va_Qv (fun _ => False) (pB D (va_pl L f) s.heap.size) (va_A (va_pl L f) s.heap.size)) (xX D (va_pl L f) s.heap.size (fun E u => E = "java/lang/IndexOutOfBoundsException" ∧ u = va_pl L f)) ([.ref (gA g 0), .int (zI (z))] : List Value).toArray s 1 6 (va_A (va_pl L f) s.heap.size) := ⟨_, rfl⟩
  rw [← hQ]
  obtain ⟨⟨a0, a1, a2, a3, a4⟩, aL, ao, aM, aE, aX⟩ := id hR
  have hn0 := hO.1
  have hc0 := hO.2.2.2.1
  refine lv_aload_n hx hb dX9_marked_0 rfl (lv_at hl 0 rfl) ?_
  refine pl_get (ci := 8) (v := .ref (gA g 1)) (C := RX9) (T := TX9) (N := 3) hx hb hts hi_X9 hown hK hP (aL 0 (by decide)) a0 rfl 0 (by decide) hw_0 (fun _ h9 => h9) rfl dX9_marked_1 ?_
  refine lv_iload_n hx hb dX9_marked_4 rfl (lv_at hl 1 rfl) ?_
  rw [hQ]
  exact px_outv (vx_runV (As := [.int (zI (z))]) (rest := []) ⟨hx, hb, hml, hown, hts⟩ (kX8_marksOf_x l D k L f (gA g 1) (gA g 2) (gA g 3) (sN S) (sT S) (aL 1 (by decide)) a1 (aL 2 (by decide)) a2 hn0 (gM g) (aL 3 (by decide)) a3 z hz hz2 hlt n0 _) (cwV 1 hts gX9_marked_X8_marksOf rfl rfl rfl (by decide +kernel) ⟨Nat.le_of_ble_eq_true rfl, Nat.le_of_ble_eq_true rfl⟩) (xc_preV hC hX hP (Nat.le_trans hn9 hS.1) hD hS hAn (pl_recv hK hP (aL 1 (by decide)) a1 (ci := 7) (q := (RX8, TX8, 3)) rfl)) rfl rfl hl.1 rfl (lv_room (Nat.le_of_ble_eq_true rfl)) dX9_marked_5 ⟨Nat.le_of_ble_eq_true rfl, Nat.le_of_ble_eq_true rfl⟩) (by rw [← hAd]; exact hD) (by rw [← hAd]; exact hS) hlocks hno (Nat.le_of_ble_eq_true rfl) (Nat.le_of_ble_eq_true rfl) (fun E u h => h)

set_option maxHeartbeats 4000000 in
set_option maxRecDepth 100000 in
theorem kX9_marked_x2 (l : Launch) (D : va_G) (k : Nat → ClassId) (L : List Nat) (f : Nat → va_E) (g : CG) (S : SA) (hR : cRep k L f g S) (hO : aOK S) (z : Int) (hz : 0 ≤ z ∧ z < 4) (hc : 30 ≤ sC S ∨ 6 < (1 : Int)) (hlt : l.stackTraces = false) (n0 sz : Nat) : vx_Met l yX9_marked wsX9_marked ({ frames := 7, cells := 1, slots := 6, locals := 103 } : Room) (va_Pc [.ref (gA g 0), .int (zI (z))] (xPre D (tyL k) n0 (va_pl L f) sz)) (va_Qv (fun _ => False) (pB D (va_pl L f) sz) (va_A (va_pl L f) sz)) (xX D (va_pl L f) sz (fun E u => E = "java/lang/IllegalStateException" ∧ u = va_pl L f)) 1 6 (va_A (va_pl L f) sz) := by
  refine vx_ofW (cc := cX9_marked) (maxL := 3) (ret := (some .int)) (by decide) rfl ?_
  intro p e s m args below meth c s₁ B hml hno hv
  obtain ⟨rfl, ⟨hsz, hn9, hP, hC, hD0⟩, hX⟩ := hv
  have hK := hC.1
  have hNW := hC.2.1
  have hx := B.exec
  have hb := B.bytes
  have hrt := B.returns
  have hts := atoms_spec (ws := wsX9_marked) B.pre
  have hown : s.vm.findClass RX9 = some m.cls := findClass_of_methodNamed B.named
  have hlocks := B.notSynchronized
  subst hsz
  obtain ⟨A, hAd⟩ : ∃ A, A = va_A (va_pl L f) s.heap.size := ⟨_, rfl⟩
  have hD := hD0.self (sz := s.heap.size)
  rw [← hAd] at hD
  have hA : ∀ q : Nat, s.heap.size ≤ q → A q := fun q h => by rw [hAd]; exact Or.inr h
  have hAn : ∀ q : Nat, A q → n0 ≤ q := fun q h => by
    rw [hAd] at h
    rcases h with ⟨k9, e9, hk9⟩ | h
    · exact hD0.2 k9 _ hk9
    · exact Nat.le_trans hn9 h
  have hS : va_S A s.heap s.heap [] := va_S.rf
  have hi_X9 : ∀ w ∈ u_ws RX9 TX9 3, w ∈ wsX9_marked := by decide +kernel
  have hw_0 := hts (.fieldLink RX9 12 "Regionry" "text" "LRegionry$Text;") (by decide +kernel)
  have hl := lv_entry ([.ref (gA g 0), .int (zI (z))]) (n := 3) (Nat.le_of_ble_eq_true rfl)
  rw [lg_entry_eq]
  generalize (lg_sl ([.ref (gA g 0), .int (zI (z))]) ++ List.replicate (3 - (lg_sl ([.ref (gA g 0), .int (zI (z))])).length) Slot.unset).toArray = ls at hl ⊢
  have hl : lv_has ls 3 [(0, .ref (gA g 0)), (1, .int (zI (z)))] := hl
  obtain ⟨Q, hQ⟩ : ∃ Q, Q = vx_MQ below (va_Qv (fun _ => False) (pB D (va_pl L f) s.heap.size) (va_A (va_pl L f) s.heap.size)) (xX D (va_pl L f) s.heap.size (fun E u => E = "java/lang/IllegalStateException" ∧ u = va_pl L f)) ([.ref (gA g 0), .int (zI (z))] : List Value).toArray s 1 6 (va_A (va_pl L f) s.heap.size) := ⟨_, rfl⟩
  rw [← hQ]
  obtain ⟨⟨a0, a1, a2, a3, a4⟩, aL, ao, aM, aE, aX⟩ := id hR
  have hn0 := hO.1
  have hc0 := hO.2.2.2.1
  refine lv_aload_n hx hb dX9_marked_0 rfl (lv_at hl 0 rfl) ?_
  refine pl_get (ci := 8) (v := .ref (gA g 1)) (C := RX9) (T := TX9) (N := 3) hx hb hts hi_X9 hown hK hP (aL 0 (by decide)) a0 rfl 0 (by decide) hw_0 (fun _ h9 => h9) rfl dX9_marked_1 ?_
  refine lv_iload_n hx hb dX9_marked_4 rfl (lv_at hl 1 rfl) ?_
  refine va_csr (va_Run.run (va_runV (As := [.int (zI (z))]) (rest := []) ⟨hx, hb, hml, hown, hts⟩ (kX8_marksOf l D k L f (gA g 1) (gA g 2) (gA g 3) (sN S) (sT S) (aL 1 (by decide)) a1 (aL 2 (by decide)) a2 hn0 (fun j => gA g (5 + j)) (fun j => gA g (9 + j)) (gM g) (sR S) (aL 3 (by decide)) a3 (fun j hj => (aM j hj).1) (fun j hj => (aM j hj).2.1) (fun j hj => (aM j hj).2.2.1) (fun j hj => (aM j hj).2.2.2.1) (fun j hj => (aM j hj).2.2.2.2.1) (cR_inj hR) (cR_lm hR) z (by omega)) (cwV 1 hts gX9_marked_X8_marksOf rfl rfl rfl (by decide +kernel) ⟨Nat.le_of_ble_eq_true rfl, Nat.le_of_ble_eq_true rfl⟩) (rc_preV hC hP (pl_recv hK hP (aL 1 (by decide)) a1 (ci := 7) (q := (RX8, TX8, 3)) rfl)) rfl rfl hl.1 rfl (lv_room (Nat.le_of_ble_eq_true rfl)) dX9_marked_5 ⟨Nat.zero_le _, Nat.zero_le _⟩)) (fun r1 hr1 => ?_)
  subst hr1
  refine lv_astore_n (lv' := [(2, .ref (gA g (5 + z.toNat))), (0, .ref (gA g 0)), (1, .int (zI (z)))]) hx hb dX9_marked_8 rfl hl (by decide) rfl (fun ls hl => ?_)
  refine lv_aload_n hx hb dX9_marked_9 rfl (lv_at hl 1 rfl) ?_
  refine zr_const hx hb dX9_marked_10 ?_
  rw [hQ]
  exact px_outv (vx_runV (As := [.int (zI (1))]) (rest := []) ⟨hx, hb, hml, hown, hts⟩ (kX9_requireRoom_x l D k L f g S hR hO 1 (by omega) hc hlt n0 _) (cwV 1 hts gX9_marked_X9_requireRoom rfl rfl rfl (by decide +kernel) ⟨Nat.le_of_ble_eq_true rfl, Nat.le_of_ble_eq_true rfl⟩) (xc_preV hC hX hP (Nat.le_trans hn9 hS.1) hD hS hAn (pl_recv hK hP (aL 0 (by decide)) a0 (ci := 8) (q := (RX9, TX9, 3)) rfl)) rfl rfl hl.1 rfl (lv_room (Nat.le_of_ble_eq_true rfl)) dX9_marked_11 ⟨Nat.le_of_ble_eq_true rfl, Nat.le_of_ble_eq_true rfl⟩) (by rw [← hAd]; exact hD) (by rw [← hAd]; exact hS) hlocks hno (Nat.le_of_ble_eq_true rfl) (Nat.le_of_ble_eq_true rfl) (fun E u h => h)

set_option maxHeartbeats 4000000 in
set_option maxRecDepth 100000 in
theorem kX9_pair (l : Launch) (D : va_G) (k : Nat → ClassId) (L : List Nat) (f : Nat → va_E) (g : CG) (S : SA) (hR : cRep k L f g S) (hO : aOK S) (w9 : Nat) (hw9 : w9 ≤ 9) (i : Nat) (hi : i < sC S) (j : Nat) (hj : j < sC S) (hc : sC S < 30) (hdp : 1 + max (sD S i) (sD S j) ≤ 6) (n0 sz : Nat) : Met l yX9_pair wsX9_pair ({ frames := 4, cells := 7, slots := 82, locals := 79 } : Room) (va_Pc [.ref (gA g 0), .int (zI ((w9 : Int))), .int (zI ((i : Int))), .int (zI ((j : Int)))] (pPre D (tyL k) n0 (va_pl L f) sz)) (va_Qi (fun r9 u => r9 = zI (sC S : Int) ∧ ∃ (L2 : List Nat) (F : Nat → va_E) (g2 : CG), u = va_pl L2 F ∧ gA g2 0 = gA g 0 ∧ cRep k L2 F g2 (addS S w9 i j 0 (1 + max (sD S i) (sD S j)))) (pB D (va_pl L f) sz) (va_A (va_pl L f) sz)) 7 82 (va_A (va_pl L f) sz) := by
  refine Met.ofW (cc := cX9_pair) (maxL := 6) (ret := (some .int)) (by decide) rfl ?_
  intro p e s m args below meth c s₁ B hml hv
  obtain ⟨rfl, hsz, hn9, hP, hC, hD0⟩ := hv
  have hK := hC.1
  have hNW := hC.2.1
  have hx := B.exec
  have hb := B.bytes
  have hrt := B.returns
  have hts := atoms_spec (ws := wsX9_pair) B.pre
  have hown : s.vm.findClass RX9 = some m.cls := findClass_of_methodNamed B.named
  have hlocks := B.notSynchronized
  subst hsz
  obtain ⟨A, hAd⟩ : ∃ A, A = va_A (va_pl L f) s.heap.size := ⟨_, rfl⟩
  have hD := hD0.self (sz := s.heap.size)
  rw [← hAd] at hD
  have hA : ∀ q : Nat, s.heap.size ≤ q → A q := fun q h => by rw [hAd]; exact Or.inr h
  have hAn : ∀ q : Nat, A q → n0 ≤ q := fun q h => by
    rw [hAd] at h
    rcases h with ⟨k9, e9, hk9⟩ | h
    · exact hD0.2 k9 _ hk9
    · exact Nat.le_trans hn9 h
  have hS : va_S A s.heap s.heap [] := va_S.rf
  have hi_X5 : ∀ w ∈ u_ws RX5 TX5 7, w ∈ wsX9_pair := by decide +kernel
  have hi_X9 : ∀ w ∈ u_ws RX9 TX9 3, w ∈ wsX9_pair := by decide +kernel
  have hi_X7 : ∀ w ∈ u_ws RX7 TX7 7, w ∈ wsX9_pair := by decide +kernel
  have hw_0 := hts (.classLink RX9 116 RX5) (by decide +kernel)
  have hw_1 := hts (.instantiable RX5 7) (by decide +kernel)
  have hw_2 := hts (.initialized RX5) (by decide +kernel)
  have hw_3 := hts (.fieldLink RX9 22 "Regionry" "count" "I") (by decide +kernel)
  have hw_4 := hts (.methodLink RX9 118 yX5_init) (by decide +kernel)
  have hw_5 := hts (.instanceMethod yX5_init) (by decide +kernel)
  have hw_6 := hts (.classLink RX9 111 RX7) (by decide +kernel)
  have hw_7 := hts (.instantiable RX7 7) (by decide +kernel)
  have hw_8 := hts (.initialized RX7) (by decide +kernel)
  have hw_9 := hts (.methodLink RX9 113 yX7_init) (by decide +kernel)
  have hw_10 := hts (.instanceMethod yX7_init) (by decide +kernel)
  have hl := lv_entry ([.ref (gA g 0), .int (zI ((w9 : Int))), .int (zI ((i : Int))), .int (zI ((j : Int)))]) (n := 6) (Nat.le_of_ble_eq_true rfl)
  rw [lg_entry_eq]
  generalize (lg_sl ([.ref (gA g 0), .int (zI ((w9 : Int))), .int (zI ((i : Int))), .int (zI ((j : Int)))]) ++ List.replicate (6 - (lg_sl ([.ref (gA g 0), .int (zI ((w9 : Int))), .int (zI ((i : Int))), .int (zI ((j : Int)))])).length) Slot.unset).toArray = ls at hl ⊢
  have hl : lv_has ls 6 [(0, .ref (gA g 0)), (1, .int (zI ((w9 : Int)))), (2, .int (zI ((i : Int)))), (3, .int (zI ((j : Int))))] := hl
  obtain ⟨Q, hQ⟩ : ∃ Q, Q = MQ below (va_Qi (fun r9 u => r9 = zI (sC S : Int) ∧ ∃ (L2 : List Nat) (F : Nat → va_E) (g2 : CG), u = va_pl L2 F ∧ gA g2 0 = gA g 0 ∧ cRep k L2 F g2 (addS S w9 i j 0 (1 + max (sD S i) (sD S j)))) (pB D (va_pl L f) s.heap.size) (va_A (va_pl L f) s.heap.size)) ([.ref (gA g 0), .int (zI ((w9 : Int))), .int (zI ((i : Int))), .int (zI ((j : Int)))] : List Value).toArray s 7 82 (va_A (va_pl L f) s.heap.size) := ⟨_, rfl⟩
  rw [← hQ]
  obtain ⟨⟨a0, a1, a2, a3, a4⟩, aL, ao, aM, aE, aX⟩ := id hR
  have hn0 := hO.1
  have hc0 := hO.2.2.2.1
  have hdi := (hO.2.2.2.2 i hi).2.1
  have hdj := (hO.2.2.2.2 j hj).2.1
  refine lv_aload_n hx hb dX9_pair_0 rfl (lv_at hl 0 rfl) ?_
  refine lv_iload_n hx hb dX9_pair_1 rfl (lv_at hl 2 rfl) ?_
  refine va_csr (va_Run.run (va_runV (As := [.int (zI ((i : Int)))]) (rest := []) ⟨hx, hb, hml, hown, hts⟩ (kX9_expressionOf l D k L f g S hR hO i hi) (cwV 1 hts gX9_pair_X9_expressionOf rfl rfl rfl (by decide +kernel) ⟨Nat.le_of_ble_eq_true rfl, Nat.le_of_ble_eq_true rfl⟩) (rc_preV hC hP (pl_recv hK hP (aL 0 (by decide)) a0 (ci := 8) (q := (RX9, TX9, 3)) rfl)) rfl rfl hl.1 rfl (lv_room (Nat.le_of_ble_eq_true rfl)) dX9_pair_2 ⟨Nat.zero_le _, Nat.zero_le _⟩)) (fun r1 hr1 => ?_)
  subst hr1
  refine lv_astore (lv' := [(4, .ref (gN g 0 i)), (0, .ref (gA g 0)), (1, .int (zI ((w9 : Int)))), (2, .int (zI ((i : Int)))), (3, .int (zI ((j : Int))))]) hx hb dX9_pair_5 hl (by decide) rfl (fun ls hl => ?_)
  refine lv_aload_n hx hb dX9_pair_7 rfl (lv_at hl 1 rfl) ?_
  refine lv_iload_n hx hb dX9_pair_8 rfl (lv_at hl 4 rfl) ?_
  refine va_csr (va_Run.run (va_runV (As := [.int (zI ((j : Int)))]) (rest := []) ⟨hx, hb, hml, hown, hts⟩ (kX9_expressionOf l D k L f g S hR hO j hj) (cwV 1 hts gX9_pair_X9_expressionOf rfl rfl rfl (by decide +kernel) ⟨Nat.le_of_ble_eq_true rfl, Nat.le_of_ble_eq_true rfl⟩) (rc_preV hC hP (pl_recv hK hP (aL 0 (by decide)) a0 (ci := 8) (q := (RX9, TX9, 3)) rfl)) rfl rfl hl.1 rfl (lv_room (Nat.le_of_ble_eq_true rfl)) dX9_pair_9 ⟨Nat.zero_le _, Nat.zero_le _⟩)) (fun r2 hr2 => ?_)
  subst hr2
  refine lv_astore (lv' := [(5, .ref (gN g 0 j)), (4, .ref (gN g 0 i)), (0, .ref (gA g 0)), (1, .int (zI ((w9 : Int)))), (2, .int (zI ((i : Int)))), (3, .int (zI ((j : Int))))]) hx hb dX9_pair_12 hl (by decide) rfl (fun ls hl => ?_)
  refine lv_iload_n hx hb dX9_pair_14 rfl (lv_at hl 3 rfl) ?_
  refine zr_if_lt (tgt := 24) hx hb dX9_pair_15 (by decide) (by omega) (fun c3 => ?_) (fun c3 => ?_)
  · exfalso; omega
  · refine lv_iload_n hx hb dX9_pair_18 rfl (lv_at hl 3 rfl) ?_
    refine zr_bipush hx hb dX9_pair_19 (by decide) ?_
    refine zr_icmp_le (tgt := 34) hx hb dX9_pair_21 (by decide) (by omega) (by omega) (fun c4 => ?_) (fun c4 => ?_)
    · refine lv_aload_n hx hb dX9_pair_34 rfl (lv_at hl 2 rfl) ?_
      refine lv_aload hx hb dX9_pair_35 (lv_at hl 1 rfl) ?_
      refine lv_aload hx hb dX9_pair_37 (lv_at hl 0 rfl) ?_
      refine vp_callSi (va_Run.run (va_runS (As := [.ref (gN g 0 i), .ref (gN g 0 j)]) (rest := [.ref (gA g 0)]) ⟨hx, hb, hml, hown, hts⟩ (kX9_depthAbove l D k L f (gN g 0 i) (sD S i) (gD g i) (gN g 1 i) (gN g 3 i) (by omega) (aE i hi).2.1.1 (hR.ex hi) (gN g 0 j) (sD S j) (gD g j) (gN g 1 j) (gN g 3 j) (by omega) (aE j hj).2.1.1 (hR.ex hj)) (va_cwS 2 hts gX9_pair_X9_depthAbove rfl rfl rfl (by decide +kernel) ⟨Nat.le_of_ble_eq_true rfl, Nat.le_of_ble_eq_true rfl⟩) (rc_preS hC hP) rfl rfl hl.1 rfl (lv_room (Nat.le_of_ble_eq_true rfl)) dX9_pair_39 ⟨Nat.zero_le _, Nat.zero_le _⟩)) (fun r5 hr5 => ?_)
      subst hr5
      refine pc_callv (va_runV (As := [.int (zI (1 + max (sD S i) (sD S j)))]) (rest := []) ⟨hx, hb, hml, hown, hts⟩ (kX9_requireRoom l D k L f g S hR hO (1 + max (sD S i) (sD S j)) (by omega) hc n0 _) (cwV 1 hts gX9_pair_X9_requireRoom rfl rfl rfl (by decide +kernel) ⟨Nat.le_of_ble_eq_true rfl, Nat.le_of_ble_eq_true rfl⟩) (pc_preV hC hP (Nat.le_trans hn9 hS.1) hD hAn (pl_recv hK hP (aL 0 (by decide)) a0 (ci := 8) (q := (RX9, TX9, 3)) rfl)) rfl rfl hl.1 rfl (lv_room (Nat.le_of_ble_eq_true rfl)) dX9_pair_42 ⟨Nat.zero_le _, Nat.zero_le _⟩) hD hS hA (fun ur6 H locs hr6 hP hD hS hzr6 => ?_)
      subst hr6
      refine lv_iload_n hx hb dX9_pair_45 rfl (lv_at hl 3 rfl) ?_
      refine zr_bipush hx hb dX9_pair_46 (by decide) ?_
      refine zr_icmp_ne (tgt := 71) hx hb dX9_pair_48 (by decide) (by omega) (by omega) (fun c7 => ?_) (fun c7 => ?_)
      · refine lv_aload_n hx hb dX9_pair_71 rfl (lv_at hl 2 rfl) ?_
        refine pl_obj (ci := 4) (fs := [.int (0), .int (0), .null, .null, .int (0), .null, .null]) (C := RX5) (T := TX5) (N := 7) hx hb hts hi_X5 tyX5 tyX5_ok hown hw_0 hw_1 hw_2 hK hP hD hS hA rfl (fun j hj => by rcases (show j = 0 ∨ j = 1 ∨ j = 2 ∨ j = 3 ∨ j = 4 ∨ j = 5 ∨ j = 6 by omega) with rfl | rfl | rfl | rfl | rfl | rfl | rfl <;> rfl) (Nat.le_of_ble_eq_true rfl) (Nat.le_of_ble_eq_true rfl) dX9_pair_72 (fun q8 H hq8 hP hD hS => ?_)
        have hP : va_P D vwCl (va_pl (L ++ [q8]) (va_up f q8 (.inr (4, [.int (0), .int (0), .null, .null, .int (0), .null, .null])))) H := hP
        have hD : va_D A (va_pl (L ++ [q8]) (va_up f q8 (.inr (4, [.int (0), .int (0), .null, .null, .int (0), .null, .null])))) := hD
        refine lv_dup hx hb dX9_pair_75 rfl ?_
        refine lv_aload_n hx hb dX9_pair_76 rfl (lv_at hl 2 rfl) ?_
        refine pl_get (ci := 8) (v := .int (zI ((sC S : Int)))) (C := RX9) (T := TX9) (N := 3) hx hb hts hi_X9 hown hK hP (List.mem_append_left _ (aL 0 (by decide))) ((va_up_ne _ _ (ne_new (aL 0 (by decide)) hq8)).trans a0) rfl 2 (by decide) hw_3 (fun _ h9 => h9) rfl dX9_pair_77 ?_
        refine lv_iload_n hx hb dX9_pair_80 rfl (lv_at hl 3 rfl) ?_
        refine lv_aload hx hb dX9_pair_81 (lv_at hl 1 rfl) ?_
        refine lv_aload hx hb dX9_pair_83 (lv_at hl 0 rfl) ?_
        refine pc_callv (va_runI (As := [.int (zI ((sC S : Int))), .int (zI ((w9 : Int))), .ref (gN g 0 i), .ref (gN g 0 j)]) (rest := [.ref q8, .ref (gA g 0)]) ⟨hx, hb, hml, hown, hts⟩ (kX5_init l D k (L ++ [q8]) (va_up f q8 (.inr (4, [.int (0), .int (0), .null, .null, .int (0), .null, .null]))) q8 (List.mem_append_right _ (List.mem_singleton.mpr rfl)) (va_up_self _ _ _) ((sC S : Int)) (by omega) (zI ((w9 : Int))) (gN g 0 i) (sD S i) (gD g i) (gN g 1 i) (gN g 3 i) (by omega) (List.mem_append_left _ (aE i hi).2.1.1) (exAt.up (ne_new (aE i hi).2.1.1 hq8) (hR.ex hi)) (gN g 0 j) (sD S j) (gD g j) (gN g 1 j) (gN g 3 j) (by omega) (List.mem_append_left _ (aE j hj).2.1.1) (exAt.up (ne_new (aE j hj).2.1.1 hq8) (hR.ex hj)) (ne_new (aE i hi).2.1.1 hq8) (ne_new (aE j hj).2.1.1 hq8) n0 _) (cwI 4 hts gX9_pair_X5_init rfl rfl rfl hw_2 hw_4 hw_5 rfl (by decide +kernel) ⟨Nat.le_of_ble_eq_true rfl, Nat.le_of_ble_eq_true rfl⟩) (pc_preS hC hP (Nat.le_trans hn9 hS.1) hD hAn) rfl rfl hl.1 rfl (lv_room (Nat.le_of_ble_eq_true rfl)) dX9_pair_85 ⟨Nat.le_of_ble_eq_true rfl, Nat.le_of_ble_eq_true rfl⟩) hD hS hA (fun ur9 H locs hr9 hP hD hS hzr9 => ?_)
        obtain ⟨qar9, hqar9, rar9, hrar9, qbr9, hqbr9, rbr9, hrbr9, Fr9, rfl, hFhr9, hFar9, hFbr9, hFcr9, hFdr9, hFor9⟩ := hr9
        refine pc_calli (va_runV (As := [.ref q8]) (rest := []) ⟨hx, hb, hml, hown, hts⟩ (kX9_keep l D k (L ++ [q8] ++ [qar9] ++ [rar9] ++ [qbr9] ++ [rbr9]) Fr9 (gA g 0) (gA g 1) (gA g 4) q8 (sC S) qar9 qbr9 ((gE g)) (zI (1 + max (sD S i) (sD S j))) (((gD g i) ||| (gD g j)) ||| pw ((sC S : Int)).toNat) (List.mem_append_left _ (List.mem_append_left _ (List.mem_append_left _ (List.mem_append_left _ (List.mem_append_left _ (aL 0 (by decide))))))) ((hFor9 _ (List.mem_append_left _ (aL 0 (by decide))) (ne_new (aL 0 (by decide)) hq8)).trans ((va_up_ne _ _ (ne_new (aL 0 (by decide)) hq8)).trans a0)) (List.mem_append_left _ (List.mem_append_left _ (List.mem_append_left _ (List.mem_append_left _ (List.mem_append_left _ (aL 4 (by decide))))))) ((hFor9 _ (List.mem_append_left _ (aL 4 (by decide))) (ne_new (aL 4 (by decide)) hq8)).trans ((va_up_ne _ _ (ne_new (aL 4 (by decide)) hq8)).trans a4)) hc (List.mem_append_left _ (List.mem_append_left _ (List.mem_append_left _ (List.mem_append_left _ (List.mem_append_right _ (List.mem_singleton.mpr rfl)))))) ⟨4, [.int ((zI ((w9 : Int)))), .ref (gN g 0 i), .ref (gN g 0 j)], by unfold exC; omega, hFhr9⟩ n0 _) (cwV 1 hts gX9_pair_X9_keep rfl rfl rfl (by decide +kernel) ⟨Nat.le_of_ble_eq_true rfl, Nat.le_of_ble_eq_true rfl⟩) (pc_preV hC hP (Nat.le_trans hn9 hS.1) hD hAn (pl_recv hK hP (List.mem_append_left _ (List.mem_append_left _ (List.mem_append_left _ (List.mem_append_left _ (List.mem_append_left _ (aL 0 (by decide))))))) ((hFor9 _ (List.mem_append_left _ (aL 0 (by decide))) (ne_new (aL 0 (by decide)) hq8)).trans ((va_up_ne _ _ (ne_new (aL 0 (by decide)) hq8)).trans a0)) (ci := 8) (q := (RX9, TX9, 3)) rfl)) rfl rfl hl.1 rfl (lv_room (Nat.le_of_ble_eq_true rfl)) dX9_pair_88 ⟨Nat.le_of_ble_eq_true rfl, Nat.le_of_ble_eq_true rfl⟩) hD hS hA (fun r10 ur10 H locs hr10 hP hD hS hzr10 => ?_)
        obtain ⟨rfl, rfl⟩ := hr10
        refine w_widen (k9 := 7) (n9 := 82) (Nat.le_of_ble_eq_true rfl) (Nat.le_of_ble_eq_true rfl) ?_
        rw [hQ]
        exact pc_iret hx hb hrt hP (by rw [← hAd]; exact hD) (by rw [← hAd]; exact hS) (by refine ⟨rfl, ?_⟩; exact addP hR hO hc hrar9 hrbr9 (by omega) (by rw [exK_4 (by omega)]; exact hFhr9) (nodeV_0 (by omega) hi hj) hFar9 hFbr9 hFcr9 hFdr9 (fun a9 ha9 => ((hFor9 _ (List.mem_append_left _ ha9) (ne_new ha9 hq8)).trans (va_up_ne _ _ (ne_new ha9 hq8)))) (needP hc hi hj (aE i hi).2.2.2.2.2 (aE j hj).2.2.2.2.2 (bt_new hc))) dX9_pair_91 hlocks
      · refine lv_aload_n hx hb dX9_pair_51 rfl (lv_at hl 2 rfl) ?_
        refine pl_obj (ci := 6) (fs := [.int (0), .int (0), .null, .null, .null, .null, .null]) (C := RX7) (T := TX7) (N := 7) hx hb hts hi_X7 tyX7 tyX7_ok hown hw_6 hw_7 hw_8 hK hP hD hS hA rfl (fun j hj => by rcases (show j = 0 ∨ j = 1 ∨ j = 2 ∨ j = 3 ∨ j = 4 ∨ j = 5 ∨ j = 6 by omega) with rfl | rfl | rfl | rfl | rfl | rfl | rfl <;> rfl) (Nat.le_of_ble_eq_true rfl) (Nat.le_of_ble_eq_true rfl) dX9_pair_52 (fun q11 H hq11 hP hD hS => ?_)
        have hP : va_P D vwCl (va_pl (L ++ [q11]) (va_up f q11 (.inr (6, [.int (0), .int (0), .null, .null, .null, .null, .null])))) H := hP
        have hD : va_D A (va_pl (L ++ [q11]) (va_up f q11 (.inr (6, [.int (0), .int (0), .null, .null, .null, .null, .null])))) := hD
        refine lv_dup hx hb dX9_pair_55 rfl ?_
        refine lv_aload_n hx hb dX9_pair_56 rfl (lv_at hl 2 rfl) ?_
        refine pl_get (ci := 8) (v := .int (zI ((sC S : Int)))) (C := RX9) (T := TX9) (N := 3) hx hb hts hi_X9 hown hK hP (List.mem_append_left _ (aL 0 (by decide))) ((va_up_ne _ _ (ne_new (aL 0 (by decide)) hq11)).trans a0) rfl 2 (by decide) hw_3 (fun _ h9 => h9) rfl dX9_pair_57 ?_
        refine lv_aload hx hb dX9_pair_60 (lv_at hl 1 rfl) ?_
        refine lv_aload hx hb dX9_pair_62 (lv_at hl 0 rfl) ?_
        refine pc_callv (va_runI (As := [.int (zI ((sC S : Int))), .ref (gN g 0 i), .ref (gN g 0 j)]) (rest := [.ref q11, .ref (gA g 0)]) ⟨hx, hb, hml, hown, hts⟩ (kX7_init l D k (L ++ [q11]) (va_up f q11 (.inr (6, [.int (0), .int (0), .null, .null, .null, .null, .null]))) q11 (List.mem_append_right _ (List.mem_singleton.mpr rfl)) (va_up_self _ _ _) ((sC S : Int)) (by omega) (gN g 0 i) (sD S i) (gD g i) (gN g 1 i) (gN g 3 i) (by omega) (List.mem_append_left _ (aE i hi).2.1.1) (exAt.up (ne_new (aE i hi).2.1.1 hq11) (hR.ex hi)) (gN g 0 j) (sD S j) (gD g j) (gN g 1 j) (gN g 3 j) (by omega) (List.mem_append_left _ (aE j hj).2.1.1) (exAt.up (ne_new (aE j hj).2.1.1 hq11) (hR.ex hj)) (ne_new (aE i hi).2.1.1 hq11) (ne_new (aE j hj).2.1.1 hq11) n0 _) (cwI 3 hts gX9_pair_X7_init rfl rfl rfl hw_8 hw_9 hw_10 rfl (by decide +kernel) ⟨Nat.le_of_ble_eq_true rfl, Nat.le_of_ble_eq_true rfl⟩) (pc_preS hC hP (Nat.le_trans hn9 hS.1) hD hAn) rfl rfl hl.1 rfl (lv_room (Nat.le_of_ble_eq_true rfl)) dX9_pair_64 ⟨Nat.le_of_ble_eq_true rfl, Nat.le_of_ble_eq_true rfl⟩) hD hS hA (fun ur12 H locs hr12 hP hD hS hzr12 => ?_)
        obtain ⟨qar12, hqar12, rar12, hrar12, qbr12, hqbr12, rbr12, hrbr12, qcr12, hqcr12, rcr12, hrcr12, Fr12, rfl, hFhr12, hFar12, hFbr12, hFcr12, hFdr12, hFer12, hFfr12, hFor12⟩ := hr12
        refine pc_calli (va_runV (As := [.ref q11]) (rest := []) ⟨hx, hb, hml, hown, hts⟩ (kX9_keep l D k (L ++ [q11] ++ [qar12] ++ [rar12] ++ [qbr12] ++ [rbr12] ++ [qcr12] ++ [rcr12]) Fr12 (gA g 0) (gA g 1) (gA g 4) q11 (sC S) qar12 qbr12 ((gE g)) (zI (1 + max (sD S i) (sD S j))) (((gD g i) ||| (gD g j)) ||| pw ((sC S : Int)).toNat) (List.mem_append_left _ (List.mem_append_left _ (List.mem_append_left _ (List.mem_append_left _ (List.mem_append_left _ (List.mem_append_left _ (List.mem_append_left _ (aL 0 (by decide))))))))) ((hFor12 _ (List.mem_append_left _ (aL 0 (by decide))) (ne_new (aL 0 (by decide)) hq11)).trans ((va_up_ne _ _ (ne_new (aL 0 (by decide)) hq11)).trans a0)) (List.mem_append_left _ (List.mem_append_left _ (List.mem_append_left _ (List.mem_append_left _ (List.mem_append_left _ (List.mem_append_left _ (List.mem_append_left _ (aL 4 (by decide))))))))) ((hFor12 _ (List.mem_append_left _ (aL 4 (by decide))) (ne_new (aL 4 (by decide)) hq11)).trans ((va_up_ne _ _ (ne_new (aL 4 (by decide)) hq11)).trans a4)) hc (List.mem_append_left _ (List.mem_append_left _ (List.mem_append_left _ (List.mem_append_left _ (List.mem_append_left _ (List.mem_append_left _ (List.mem_append_right _ (List.mem_singleton.mpr rfl)))))))) ⟨6, [.ref (gN g 0 i), .ref (gN g 0 j), .ref qcr12], by unfold exC; omega, hFhr12⟩ n0 _) (cwV 1 hts gX9_pair_X9_keep rfl rfl rfl (by decide +kernel) ⟨Nat.le_of_ble_eq_true rfl, Nat.le_of_ble_eq_true rfl⟩) (pc_preV hC hP (Nat.le_trans hn9 hS.1) hD hAn (pl_recv hK hP (List.mem_append_left _ (List.mem_append_left _ (List.mem_append_left _ (List.mem_append_left _ (List.mem_append_left _ (List.mem_append_left _ (List.mem_append_left _ (aL 0 (by decide))))))))) ((hFor12 _ (List.mem_append_left _ (aL 0 (by decide))) (ne_new (aL 0 (by decide)) hq11)).trans ((va_up_ne _ _ (ne_new (aL 0 (by decide)) hq11)).trans a0)) (ci := 8) (q := (RX9, TX9, 3)) rfl)) rfl rfl hl.1 rfl (lv_room (Nat.le_of_ble_eq_true rfl)) dX9_pair_67 ⟨Nat.le_of_ble_eq_true rfl, Nat.le_of_ble_eq_true rfl⟩) hD hS hA (fun r13 ur13 H locs hr13 hP hD hS hzr13 => ?_)
        obtain ⟨rfl, rfl⟩ := hr13
        rw [hQ]
        exact pc_iret hx hb hrt hP (by rw [← hAd]; exact hD) (by rw [← hAd]; exact hS) (by obtain rfl : w9 = 9 := (by omega); refine ⟨rfl, ?_⟩; exact addQ hR hO hc hrar12 hrbr12 hrcr12 hFhr12 (nodeV_9 hi hj) hFar12 hFbr12 hFcr12 hFdr12 hFer12 hFfr12 (fun a9 ha9 => ((hFor12 _ (List.mem_append_left _ ha9) (ne_new ha9 hq11)).trans (va_up_ne _ _ (ne_new ha9 hq11)))) (needP hc hi hj (aE i hi).2.2.2.2.2 (aE j hj).2.2.2.2.2 (bt_new hc))) dX9_pair_70 hlocks
    · exfalso; omega

set_option maxHeartbeats 4000000 in
set_option maxRecDepth 100000 in
theorem kX9_pair_x (l : Launch) (D : va_G) (k : Nat → ClassId) (L : List Nat) (f : Nat → va_E) (g : CG) (S : SA) (hR : cRep k L f g S) (hO : aOK S) (z : Int) (hz : -2147483648 ≤ z ∧ z < 2147483648) (hz2 : ¬ (0 ≤ z ∧ z < (sC S : Int))) (y x : Int) (hlt : l.stackTraces = false) (n0 sz : Nat) : vx_Met l yX9_pair wsX9_pair ({ frames := 7, cells := 1, slots := 6, locals := 103 } : Room) (va_Pc [.ref (gA g 0), .int (zI (y)), .int (zI (z)), .int (zI (x))] (xPre D (tyL k) n0 (va_pl L f) sz)) (va_Qv (fun _ => False) (pB D (va_pl L f) sz) (va_A (va_pl L f) sz)) (xX D (va_pl L f) sz (fun E u => E = "java/lang/IndexOutOfBoundsException" ∧ u = va_pl L f)) 1 6 (va_A (va_pl L f) sz) := by
  refine vx_ofW (cc := cX9_pair) (maxL := 6) (ret := (some .int)) (by decide) rfl ?_
  intro p e s m args below meth c s₁ B hml hno hv
  obtain ⟨rfl, ⟨hsz, hn9, hP, hC, hD0⟩, hX⟩ := hv
  have hK := hC.1
  have hNW := hC.2.1
  have hx := B.exec
  have hb := B.bytes
  have hrt := B.returns
  have hts := atoms_spec (ws := wsX9_pair) B.pre
  have hown : s.vm.findClass RX9 = some m.cls := findClass_of_methodNamed B.named
  have hlocks := B.notSynchronized
  subst hsz
  obtain ⟨A, hAd⟩ : ∃ A, A = va_A (va_pl L f) s.heap.size := ⟨_, rfl⟩
  have hD := hD0.self (sz := s.heap.size)
  rw [← hAd] at hD
  have hA : ∀ q : Nat, s.heap.size ≤ q → A q := fun q h => by rw [hAd]; exact Or.inr h
  have hAn : ∀ q : Nat, A q → n0 ≤ q := fun q h => by
    rw [hAd] at h
    rcases h with ⟨k9, e9, hk9⟩ | h
    · exact hD0.2 k9 _ hk9
    · exact Nat.le_trans hn9 h
  have hS : va_S A s.heap s.heap [] := va_S.rf
  have hl := lv_entry ([.ref (gA g 0), .int (zI (y)), .int (zI (z)), .int (zI (x))]) (n := 6) (Nat.le_of_ble_eq_true rfl)
  rw [lg_entry_eq]
  generalize (lg_sl ([.ref (gA g 0), .int (zI (y)), .int (zI (z)), .int (zI (x))]) ++ List.replicate (6 - (lg_sl ([.ref (gA g 0), .int (zI (y)), .int (zI (z)), .int (zI (x))])).length) Slot.unset).toArray = ls at hl ⊢
  have hl : lv_has ls 6 [(0, .ref (gA g 0)), (1, .int (zI (y))), (2, .int (zI (z))), (3, .int (zI (x)))] := hl
  obtain ⟨Q, hQ⟩ : ∃ Q, Q = vx_MQ below (va_Qv (fun _ => False) (pB D (va_pl L f) s.heap.size) (va_A (va_pl L f) s.heap.size)) (xX D (va_pl L f) s.heap.size (fun E u => E = "java/lang/IndexOutOfBoundsException" ∧ u = va_pl L f)) ([.ref (gA g 0), .int (zI (y)), .int (zI (z)), .int (zI (x))] : List Value).toArray s 1 6 (va_A (va_pl L f) s.heap.size) := ⟨_, rfl⟩
  rw [← hQ]
  obtain ⟨⟨a0, a1, a2, a3, a4⟩, aL, ao, aM, aE, aX⟩ := id hR
  have hn0 := hO.1
  have hc0 := hO.2.2.2.1
  refine lv_aload_n hx hb dX9_pair_0 rfl (lv_at hl 0 rfl) ?_
  refine lv_iload_n hx hb dX9_pair_1 rfl (lv_at hl 2 rfl) ?_
  rw [hQ]
  exact px_outv (vx_runV (As := [.int (zI (z))]) (rest := []) ⟨hx, hb, hml, hown, hts⟩ (kX9_expressionOf_x l D k L f g S hR hO z hz hz2 hlt n0 _) (cwV 1 hts gX9_pair_X9_expressionOf rfl rfl rfl (by decide +kernel) ⟨Nat.le_of_ble_eq_true rfl, Nat.le_of_ble_eq_true rfl⟩) (xc_preV hC hX hP (Nat.le_trans hn9 hS.1) hD hS hAn (pl_recv hK hP (aL 0 (by decide)) a0 (ci := 8) (q := (RX9, TX9, 3)) rfl)) rfl rfl hl.1 rfl (lv_room (Nat.le_of_ble_eq_true rfl)) dX9_pair_2 ⟨Nat.le_of_ble_eq_true rfl, Nat.le_of_ble_eq_true rfl⟩) (by rw [← hAd]; exact hD) (by rw [← hAd]; exact hS) hlocks hno (Nat.le_of_ble_eq_true rfl) (Nat.le_of_ble_eq_true rfl) (fun E u h => h)

set_option maxHeartbeats 4000000 in
set_option maxRecDepth 100000 in
theorem kX9_pair_x2 (l : Launch) (D : va_G) (k : Nat → ClassId) (L : List Nat) (f : Nat → va_E) (g : CG) (S : SA) (hR : cRep k L f g S) (hO : aOK S) (i : Nat) (hi : i < sC S) (z : Int) (hz : -2147483648 ≤ z ∧ z < 2147483648) (hz2 : ¬ (0 ≤ z ∧ z < (sC S : Int))) (y : Int) (hlt : l.stackTraces = false) (n0 sz : Nat) : vx_Met l yX9_pair wsX9_pair ({ frames := 7, cells := 1, slots := 6, locals := 103 } : Room) (va_Pc [.ref (gA g 0), .int (zI (y)), .int (zI ((i : Int))), .int (zI (z))] (xPre D (tyL k) n0 (va_pl L f) sz)) (va_Qv (fun _ => False) (pB D (va_pl L f) sz) (va_A (va_pl L f) sz)) (xX D (va_pl L f) sz (fun E u => E = "java/lang/IndexOutOfBoundsException" ∧ u = va_pl L f)) 1 6 (va_A (va_pl L f) sz) := by
  refine vx_ofW (cc := cX9_pair) (maxL := 6) (ret := (some .int)) (by decide) rfl ?_
  intro p e s m args below meth c s₁ B hml hno hv
  obtain ⟨rfl, ⟨hsz, hn9, hP, hC, hD0⟩, hX⟩ := hv
  have hK := hC.1
  have hNW := hC.2.1
  have hx := B.exec
  have hb := B.bytes
  have hrt := B.returns
  have hts := atoms_spec (ws := wsX9_pair) B.pre
  have hown : s.vm.findClass RX9 = some m.cls := findClass_of_methodNamed B.named
  have hlocks := B.notSynchronized
  subst hsz
  obtain ⟨A, hAd⟩ : ∃ A, A = va_A (va_pl L f) s.heap.size := ⟨_, rfl⟩
  have hD := hD0.self (sz := s.heap.size)
  rw [← hAd] at hD
  have hA : ∀ q : Nat, s.heap.size ≤ q → A q := fun q h => by rw [hAd]; exact Or.inr h
  have hAn : ∀ q : Nat, A q → n0 ≤ q := fun q h => by
    rw [hAd] at h
    rcases h with ⟨k9, e9, hk9⟩ | h
    · exact hD0.2 k9 _ hk9
    · exact Nat.le_trans hn9 h
  have hS : va_S A s.heap s.heap [] := va_S.rf
  have hl := lv_entry ([.ref (gA g 0), .int (zI (y)), .int (zI ((i : Int))), .int (zI (z))]) (n := 6) (Nat.le_of_ble_eq_true rfl)
  rw [lg_entry_eq]
  generalize (lg_sl ([.ref (gA g 0), .int (zI (y)), .int (zI ((i : Int))), .int (zI (z))]) ++ List.replicate (6 - (lg_sl ([.ref (gA g 0), .int (zI (y)), .int (zI ((i : Int))), .int (zI (z))])).length) Slot.unset).toArray = ls at hl ⊢
  have hl : lv_has ls 6 [(0, .ref (gA g 0)), (1, .int (zI (y))), (2, .int (zI ((i : Int)))), (3, .int (zI (z)))] := hl
  obtain ⟨Q, hQ⟩ : ∃ Q, Q = vx_MQ below (va_Qv (fun _ => False) (pB D (va_pl L f) s.heap.size) (va_A (va_pl L f) s.heap.size)) (xX D (va_pl L f) s.heap.size (fun E u => E = "java/lang/IndexOutOfBoundsException" ∧ u = va_pl L f)) ([.ref (gA g 0), .int (zI (y)), .int (zI ((i : Int))), .int (zI (z))] : List Value).toArray s 1 6 (va_A (va_pl L f) s.heap.size) := ⟨_, rfl⟩
  rw [← hQ]
  obtain ⟨⟨a0, a1, a2, a3, a4⟩, aL, ao, aM, aE, aX⟩ := id hR
  have hn0 := hO.1
  have hc0 := hO.2.2.2.1
  refine lv_aload_n hx hb dX9_pair_0 rfl (lv_at hl 0 rfl) ?_
  refine lv_iload_n hx hb dX9_pair_1 rfl (lv_at hl 2 rfl) ?_
  refine va_csr (va_Run.run (va_runV (As := [.int (zI ((i : Int)))]) (rest := []) ⟨hx, hb, hml, hown, hts⟩ (kX9_expressionOf l D k L f g S hR hO i hi) (cwV 1 hts gX9_pair_X9_expressionOf rfl rfl rfl (by decide +kernel) ⟨Nat.le_of_ble_eq_true rfl, Nat.le_of_ble_eq_true rfl⟩) (rc_preV hC hP (pl_recv hK hP (aL 0 (by decide)) a0 (ci := 8) (q := (RX9, TX9, 3)) rfl)) rfl rfl hl.1 rfl (lv_room (Nat.le_of_ble_eq_true rfl)) dX9_pair_2 ⟨Nat.zero_le _, Nat.zero_le _⟩)) (fun r1 hr1 => ?_)
  subst hr1
  refine lv_astore (lv' := [(4, .ref (gN g 0 i)), (0, .ref (gA g 0)), (1, .int (zI (y))), (2, .int (zI ((i : Int)))), (3, .int (zI (z)))]) hx hb dX9_pair_5 hl (by decide) rfl (fun ls hl => ?_)
  refine lv_aload_n hx hb dX9_pair_7 rfl (lv_at hl 1 rfl) ?_
  refine lv_iload_n hx hb dX9_pair_8 rfl (lv_at hl 4 rfl) ?_
  rw [hQ]
  exact px_outv (vx_runV (As := [.int (zI (z))]) (rest := []) ⟨hx, hb, hml, hown, hts⟩ (kX9_expressionOf_x l D k L f g S hR hO z hz hz2 hlt n0 _) (cwV 1 hts gX9_pair_X9_expressionOf rfl rfl rfl (by decide +kernel) ⟨Nat.le_of_ble_eq_true rfl, Nat.le_of_ble_eq_true rfl⟩) (xc_preV hC hX hP (Nat.le_trans hn9 hS.1) hD hS hAn (pl_recv hK hP (aL 0 (by decide)) a0 (ci := 8) (q := (RX9, TX9, 3)) rfl)) rfl rfl hl.1 rfl (lv_room (Nat.le_of_ble_eq_true rfl)) dX9_pair_9 ⟨Nat.le_of_ble_eq_true rfl, Nat.le_of_ble_eq_true rfl⟩) (by rw [← hAd]; exact hD) (by rw [← hAd]; exact hS) hlocks hno (Nat.le_of_ble_eq_true rfl) (Nat.le_of_ble_eq_true rfl) (fun E u h => h)

set_option maxHeartbeats 4000000 in
set_option maxRecDepth 100000 in
theorem kX9_pair_x3 (l : Launch) (D : va_G) (k : Nat → ClassId) (L : List Nat) (f : Nat → va_E) (g : CG) (S : SA) (hR : cRep k L f g S) (hO : aOK S) (i : Nat) (hi : i < sC S) (j : Nat) (hj : j < sC S) (y : Int) (hy : -2147483648 ≤ y ∧ y < 2147483648) (hy2 : ¬ (0 ≤ y ∧ y ≤ 9)) (hlt : l.stackTraces = false) (n0 sz : Nat) : vx_Met l yX9_pair wsX9_pair ({ frames := 6, cells := 1, slots := 6, locals := 82 } : Room) (va_Pc [.ref (gA g 0), .int (zI (y)), .int (zI ((i : Int))), .int (zI ((j : Int)))] (xPre D (tyL k) n0 (va_pl L f) sz)) (va_Qv (fun _ => False) (pB D (va_pl L f) sz) (va_A (va_pl L f) sz)) (xX D (va_pl L f) sz (fun E u => E = "java/lang/IllegalArgumentException" ∧ u = va_pl L f)) 1 6 (va_A (va_pl L f) sz) := by
  refine vx_ofW (cc := cX9_pair) (maxL := 6) (ret := (some .int)) (by decide) rfl ?_
  intro p e s m args below meth c s₁ B hml hno hv
  obtain ⟨rfl, ⟨hsz, hn9, hP, hC, hD0⟩, hX⟩ := hv
  have hK := hC.1
  have hNW := hC.2.1
  have hx := B.exec
  have hb := B.bytes
  have hrt := B.returns
  have hts := atoms_spec (ws := wsX9_pair) B.pre
  have hown : s.vm.findClass RX9 = some m.cls := findClass_of_methodNamed B.named
  have hlocks := B.notSynchronized
  subst hsz
  obtain ⟨A, hAd⟩ : ∃ A, A = va_A (va_pl L f) s.heap.size := ⟨_, rfl⟩
  have hD := hD0.self (sz := s.heap.size)
  rw [← hAd] at hD
  have hA : ∀ q : Nat, s.heap.size ≤ q → A q := fun q h => by rw [hAd]; exact Or.inr h
  have hAn : ∀ q : Nat, A q → n0 ≤ q := fun q h => by
    rw [hAd] at h
    rcases h with ⟨k9, e9, hk9⟩ | h
    · exact hD0.2 k9 _ hk9
    · exact Nat.le_trans hn9 h
  have hS : va_S A s.heap s.heap [] := va_S.rf
  have hw_0 := hts (.classLink RX9 48 "java/lang/IllegalArgumentException") (by decide +kernel)
  have hw_1 := hts (.initialized "java/lang/IllegalArgumentException") (by decide +kernel)
  have hl := lv_entry ([.ref (gA g 0), .int (zI (y)), .int (zI ((i : Int))), .int (zI ((j : Int)))]) (n := 6) (Nat.le_of_ble_eq_true rfl)
  rw [lg_entry_eq]
  generalize (lg_sl ([.ref (gA g 0), .int (zI (y)), .int (zI ((i : Int))), .int (zI ((j : Int)))]) ++ List.replicate (6 - (lg_sl ([.ref (gA g 0), .int (zI (y)), .int (zI ((i : Int))), .int (zI ((j : Int)))])).length) Slot.unset).toArray = ls at hl ⊢
  have hl : lv_has ls 6 [(0, .ref (gA g 0)), (1, .int (zI (y))), (2, .int (zI ((i : Int)))), (3, .int (zI ((j : Int))))] := hl
  obtain ⟨Q, hQ⟩ : ∃ Q, Q = vx_MQ below (va_Qv (fun _ => False) (pB D (va_pl L f) s.heap.size) (va_A (va_pl L f) s.heap.size)) (xX D (va_pl L f) s.heap.size (fun E u => E = "java/lang/IllegalArgumentException" ∧ u = va_pl L f)) ([.ref (gA g 0), .int (zI (y)), .int (zI ((i : Int))), .int (zI ((j : Int)))] : List Value).toArray s 1 6 (va_A (va_pl L f) s.heap.size) := ⟨_, rfl⟩
  rw [← hQ]
  obtain ⟨⟨a0, a1, a2, a3, a4⟩, aL, ao, aM, aE, aX⟩ := id hR
  have hn0 := hO.1
  have hc0 := hO.2.2.2.1
  have hdi := (hO.2.2.2.2 i hi).2.1
  have hdj := (hO.2.2.2.2 j hj).2.1
  refine lv_aload_n hx hb dX9_pair_0 rfl (lv_at hl 0 rfl) ?_
  refine lv_iload_n hx hb dX9_pair_1 rfl (lv_at hl 2 rfl) ?_
  refine va_csr (va_Run.run (va_runV (As := [.int (zI ((i : Int)))]) (rest := []) ⟨hx, hb, hml, hown, hts⟩ (kX9_expressionOf l D k L f g S hR hO i hi) (cwV 1 hts gX9_pair_X9_expressionOf rfl rfl rfl (by decide +kernel) ⟨Nat.le_of_ble_eq_true rfl, Nat.le_of_ble_eq_true rfl⟩) (rc_preV hC hP (pl_recv hK hP (aL 0 (by decide)) a0 (ci := 8) (q := (RX9, TX9, 3)) rfl)) rfl rfl hl.1 rfl (lv_room (Nat.le_of_ble_eq_true rfl)) dX9_pair_2 ⟨Nat.zero_le _, Nat.zero_le _⟩)) (fun r1 hr1 => ?_)
  subst hr1
  refine lv_astore (lv' := [(4, .ref (gN g 0 i)), (0, .ref (gA g 0)), (1, .int (zI (y))), (2, .int (zI ((i : Int)))), (3, .int (zI ((j : Int))))]) hx hb dX9_pair_5 hl (by decide) rfl (fun ls hl => ?_)
  refine lv_aload_n hx hb dX9_pair_7 rfl (lv_at hl 1 rfl) ?_
  refine lv_iload_n hx hb dX9_pair_8 rfl (lv_at hl 4 rfl) ?_
  refine va_csr (va_Run.run (va_runV (As := [.int (zI ((j : Int)))]) (rest := []) ⟨hx, hb, hml, hown, hts⟩ (kX9_expressionOf l D k L f g S hR hO j hj) (cwV 1 hts gX9_pair_X9_expressionOf rfl rfl rfl (by decide +kernel) ⟨Nat.le_of_ble_eq_true rfl, Nat.le_of_ble_eq_true rfl⟩) (rc_preV hC hP (pl_recv hK hP (aL 0 (by decide)) a0 (ci := 8) (q := (RX9, TX9, 3)) rfl)) rfl rfl hl.1 rfl (lv_room (Nat.le_of_ble_eq_true rfl)) dX9_pair_9 ⟨Nat.zero_le _, Nat.zero_le _⟩)) (fun r2 hr2 => ?_)
  subst hr2
  refine lv_astore (lv' := [(5, .ref (gN g 0 j)), (4, .ref (gN g 0 i)), (0, .ref (gA g 0)), (1, .int (zI (y))), (2, .int (zI ((i : Int)))), (3, .int (zI ((j : Int))))]) hx hb dX9_pair_12 hl (by decide) rfl (fun ls hl => ?_)
  refine lv_iload_n hx hb dX9_pair_14 rfl (lv_at hl 3 rfl) ?_
  refine zr_if_lt (tgt := 24) hx hb dX9_pair_15 (by decide) (by omega) (fun c3 => ?_) (fun c3 => ?_)
  · rw [hQ]
    exact px_throw (own := RX9) (cls := "java/lang/IllegalArgumentException") (text := "no such operation") (ik := 48) (is := 105) (ic := 52) hx hb hlt hown (by decide) hw_0 hw_1 (by decide) hX (px_hat hts hNW hX (by decide +kernel) (by decide +kernel) (by decide +kernel)) (by decide +kernel) hP (by rw [← hAd]; exact hD) (by rw [← hAd]; exact hS) (by rw [← hAd]; exact hAn) (hl.1.trans hml.symm) dX9_pair_24 dX9_pair_27 dX9_pair_28 dX9_pair_30 dX9_pair_33 hno (Nat.le_of_ble_eq_true rfl) (Nat.le_of_ble_eq_true rfl) (Nat.le_of_ble_eq_true rfl) (Nat.le_of_ble_eq_true rfl) hlocks (Nat.le_of_ble_eq_true rfl) (Nat.le_of_ble_eq_true rfl) (⟨rfl, rfl⟩)
  · refine lv_iload_n hx hb dX9_pair_18 rfl (lv_at hl 3 rfl) ?_
    refine zr_bipush hx hb dX9_pair_19 (by decide) ?_
    refine zr_icmp_le (tgt := 34) hx hb dX9_pair_21 (by decide) (by omega) (by omega) (fun c4 => ?_) (fun c4 => ?_)
    · exfalso; omega
    · rw [hQ]
      exact px_throw (own := RX9) (cls := "java/lang/IllegalArgumentException") (text := "no such operation") (ik := 48) (is := 105) (ic := 52) hx hb hlt hown (by decide) hw_0 hw_1 (by decide) hX (px_hat hts hNW hX (by decide +kernel) (by decide +kernel) (by decide +kernel)) (by decide +kernel) hP (by rw [← hAd]; exact hD) (by rw [← hAd]; exact hS) (by rw [← hAd]; exact hAn) (hl.1.trans hml.symm) dX9_pair_24 dX9_pair_27 dX9_pair_28 dX9_pair_30 dX9_pair_33 hno (Nat.le_of_ble_eq_true rfl) (Nat.le_of_ble_eq_true rfl) (Nat.le_of_ble_eq_true rfl) (Nat.le_of_ble_eq_true rfl) hlocks (Nat.le_of_ble_eq_true rfl) (Nat.le_of_ble_eq_true rfl) (⟨rfl, rfl⟩)

set_option maxHeartbeats 4000000 in
set_option maxRecDepth 100000 in
theorem kX9_pair_x4 (l : Launch) (D : va_G) (k : Nat → ClassId) (L : List Nat) (f : Nat → va_E) (g : CG) (S : SA) (hR : cRep k L f g S) (hO : aOK S) (w9 : Nat) (hw9 : w9 ≤ 9) (i : Nat) (hi : i < sC S) (j : Nat) (hj : j < sC S) (hc : 30 ≤ sC S ∨ 6 < (1 + max (sD S i) (sD S j))) (hlt : l.stackTraces = false) (n0 sz : Nat) : vx_Met l yX9_pair wsX9_pair ({ frames := 7, cells := 1, slots := 6, locals := 103 } : Room) (va_Pc [.ref (gA g 0), .int (zI ((w9 : Int))), .int (zI ((i : Int))), .int (zI ((j : Int)))] (xPre D (tyL k) n0 (va_pl L f) sz)) (va_Qv (fun _ => False) (pB D (va_pl L f) sz) (va_A (va_pl L f) sz)) (xX D (va_pl L f) sz (fun E u => E = "java/lang/IllegalStateException" ∧ u = va_pl L f)) 1 6 (va_A (va_pl L f) sz) := by
  refine vx_ofW (cc := cX9_pair) (maxL := 6) (ret := (some .int)) (by decide) rfl ?_
  intro p e s m args below meth c s₁ B hml hno hv
  obtain ⟨rfl, ⟨hsz, hn9, hP, hC, hD0⟩, hX⟩ := hv
  have hK := hC.1
  have hNW := hC.2.1
  have hx := B.exec
  have hb := B.bytes
  have hrt := B.returns
  have hts := atoms_spec (ws := wsX9_pair) B.pre
  have hown : s.vm.findClass RX9 = some m.cls := findClass_of_methodNamed B.named
  have hlocks := B.notSynchronized
  subst hsz
  obtain ⟨A, hAd⟩ : ∃ A, A = va_A (va_pl L f) s.heap.size := ⟨_, rfl⟩
  have hD := hD0.self (sz := s.heap.size)
  rw [← hAd] at hD
  have hA : ∀ q : Nat, s.heap.size ≤ q → A q := fun q h => by rw [hAd]; exact Or.inr h
  have hAn : ∀ q : Nat, A q → n0 ≤ q := fun q h => by
    rw [hAd] at h
    rcases h with ⟨k9, e9, hk9⟩ | h
    · exact hD0.2 k9 _ hk9
    · exact Nat.le_trans hn9 h
  have hS : va_S A s.heap s.heap [] := va_S.rf
  have hl := lv_entry ([.ref (gA g 0), .int (zI ((w9 : Int))), .int (zI ((i : Int))), .int (zI ((j : Int)))]) (n := 6) (Nat.le_of_ble_eq_true rfl)
  rw [lg_entry_eq]
  generalize (lg_sl ([.ref (gA g 0), .int (zI ((w9 : Int))), .int (zI ((i : Int))), .int (zI ((j : Int)))]) ++ List.replicate (6 - (lg_sl ([.ref (gA g 0), .int (zI ((w9 : Int))), .int (zI ((i : Int))), .int (zI ((j : Int)))])).length) Slot.unset).toArray = ls at hl ⊢
  have hl : lv_has ls 6 [(0, .ref (gA g 0)), (1, .int (zI ((w9 : Int)))), (2, .int (zI ((i : Int)))), (3, .int (zI ((j : Int))))] := hl
  obtain ⟨Q, hQ⟩ : ∃ Q, Q = vx_MQ below (va_Qv (fun _ => False) (pB D (va_pl L f) s.heap.size) (va_A (va_pl L f) s.heap.size)) (xX D (va_pl L f) s.heap.size (fun E u => E = "java/lang/IllegalStateException" ∧ u = va_pl L f)) ([.ref (gA g 0), .int (zI ((w9 : Int))), .int (zI ((i : Int))), .int (zI ((j : Int)))] : List Value).toArray s 1 6 (va_A (va_pl L f) s.heap.size) := ⟨_, rfl⟩
  rw [← hQ]
  obtain ⟨⟨a0, a1, a2, a3, a4⟩, aL, ao, aM, aE, aX⟩ := id hR
  have hn0 := hO.1
  have hc0 := hO.2.2.2.1
  have hdi := (hO.2.2.2.2 i hi).2.1
  have hdj := (hO.2.2.2.2 j hj).2.1
  refine lv_aload_n hx hb dX9_pair_0 rfl (lv_at hl 0 rfl) ?_
  refine lv_iload_n hx hb dX9_pair_1 rfl (lv_at hl 2 rfl) ?_
  refine va_csr (va_Run.run (va_runV (As := [.int (zI ((i : Int)))]) (rest := []) ⟨hx, hb, hml, hown, hts⟩ (kX9_expressionOf l D k L f g S hR hO i hi) (cwV 1 hts gX9_pair_X9_expressionOf rfl rfl rfl (by decide +kernel) ⟨Nat.le_of_ble_eq_true rfl, Nat.le_of_ble_eq_true rfl⟩) (rc_preV hC hP (pl_recv hK hP (aL 0 (by decide)) a0 (ci := 8) (q := (RX9, TX9, 3)) rfl)) rfl rfl hl.1 rfl (lv_room (Nat.le_of_ble_eq_true rfl)) dX9_pair_2 ⟨Nat.zero_le _, Nat.zero_le _⟩)) (fun r1 hr1 => ?_)
  subst hr1
  refine lv_astore (lv' := [(4, .ref (gN g 0 i)), (0, .ref (gA g 0)), (1, .int (zI ((w9 : Int)))), (2, .int (zI ((i : Int)))), (3, .int (zI ((j : Int))))]) hx hb dX9_pair_5 hl (by decide) rfl (fun ls hl => ?_)
  refine lv_aload_n hx hb dX9_pair_7 rfl (lv_at hl 1 rfl) ?_
  refine lv_iload_n hx hb dX9_pair_8 rfl (lv_at hl 4 rfl) ?_
  refine va_csr (va_Run.run (va_runV (As := [.int (zI ((j : Int)))]) (rest := []) ⟨hx, hb, hml, hown, hts⟩ (kX9_expressionOf l D k L f g S hR hO j hj) (cwV 1 hts gX9_pair_X9_expressionOf rfl rfl rfl (by decide +kernel) ⟨Nat.le_of_ble_eq_true rfl, Nat.le_of_ble_eq_true rfl⟩) (rc_preV hC hP (pl_recv hK hP (aL 0 (by decide)) a0 (ci := 8) (q := (RX9, TX9, 3)) rfl)) rfl rfl hl.1 rfl (lv_room (Nat.le_of_ble_eq_true rfl)) dX9_pair_9 ⟨Nat.zero_le _, Nat.zero_le _⟩)) (fun r2 hr2 => ?_)
  subst hr2
  refine lv_astore (lv' := [(5, .ref (gN g 0 j)), (4, .ref (gN g 0 i)), (0, .ref (gA g 0)), (1, .int (zI ((w9 : Int)))), (2, .int (zI ((i : Int)))), (3, .int (zI ((j : Int))))]) hx hb dX9_pair_12 hl (by decide) rfl (fun ls hl => ?_)
  refine lv_iload_n hx hb dX9_pair_14 rfl (lv_at hl 3 rfl) ?_
  refine zr_if_lt (tgt := 24) hx hb dX9_pair_15 (by decide) (by omega) (fun c3 => ?_) (fun c3 => ?_)
  · exfalso; omega
  · refine lv_iload_n hx hb dX9_pair_18 rfl (lv_at hl 3 rfl) ?_
    refine zr_bipush hx hb dX9_pair_19 (by decide) ?_
    refine zr_icmp_le (tgt := 34) hx hb dX9_pair_21 (by decide) (by omega) (by omega) (fun c4 => ?_) (fun c4 => ?_)
    · refine lv_aload_n hx hb dX9_pair_34 rfl (lv_at hl 2 rfl) ?_
      refine lv_aload hx hb dX9_pair_35 (lv_at hl 1 rfl) ?_
      refine lv_aload hx hb dX9_pair_37 (lv_at hl 0 rfl) ?_
      refine vp_callSi (va_Run.run (va_runS (As := [.ref (gN g 0 i), .ref (gN g 0 j)]) (rest := [.ref (gA g 0)]) ⟨hx, hb, hml, hown, hts⟩ (kX9_depthAbove l D k L f (gN g 0 i) (sD S i) (gD g i) (gN g 1 i) (gN g 3 i) (by omega) (aE i hi).2.1.1 (hR.ex hi) (gN g 0 j) (sD S j) (gD g j) (gN g 1 j) (gN g 3 j) (by omega) (aE j hj).2.1.1 (hR.ex hj)) (va_cwS 2 hts gX9_pair_X9_depthAbove rfl rfl rfl (by decide +kernel) ⟨Nat.le_of_ble_eq_true rfl, Nat.le_of_ble_eq_true rfl⟩) (rc_preS hC hP) rfl rfl hl.1 rfl (lv_room (Nat.le_of_ble_eq_true rfl)) dX9_pair_39 ⟨Nat.zero_le _, Nat.zero_le _⟩)) (fun r5 hr5 => ?_)
      subst hr5
      rw [hQ]
      exact px_outv (vx_runV (As := [.int (zI (1 + max (sD S i) (sD S j)))]) (rest := []) ⟨hx, hb, hml, hown, hts⟩ (kX9_requireRoom_x l D k L f g S hR hO (1 + max (sD S i) (sD S j)) (by omega) hc hlt n0 _) (cwV 1 hts gX9_pair_X9_requireRoom rfl rfl rfl (by decide +kernel) ⟨Nat.le_of_ble_eq_true rfl, Nat.le_of_ble_eq_true rfl⟩) (xc_preV hC hX hP (Nat.le_trans hn9 hS.1) hD hS hAn (pl_recv hK hP (aL 0 (by decide)) a0 (ci := 8) (q := (RX9, TX9, 3)) rfl)) rfl rfl hl.1 rfl (lv_room (Nat.le_of_ble_eq_true rfl)) dX9_pair_42 ⟨Nat.le_of_ble_eq_true rfl, Nat.le_of_ble_eq_true rfl⟩) (by rw [← hAd]; exact hD) (by rw [← hAd]; exact hS) hlocks hno (Nat.le_of_ble_eq_true rfl) (Nat.le_of_ble_eq_true rfl) (fun E u h => h)
    · exfalso; omega

set_option maxHeartbeats 4000000 in
set_option maxRecDepth 100000 in
theorem kX9_near (l : Launch) (D : va_G) (k : Nat → ClassId) (L : List Nat) (f : Nat → va_E) (g : CG) (S : SA) (hR : cRep k L f g S) (hO : aOK S) (i : Nat) (hi : i < sC S) (j : Nat) (hj : j < sC S) (y : Int) (hy : 0 ≤ y ∧ y ≤ 24) (hc : sC S < 30) (hdp : 1 + max (sD S i) (sD S j) ≤ 6) (n0 sz : Nat) : Met l yX9_near wsX9_near ({ frames := 4, cells := 5, slots := 57, locals := 79 } : Room) (va_Pc [.ref (gA g 0), .int (zI ((i : Int))), .int (zI ((j : Int))), .int (zI (y))] (pPre D (tyL k) n0 (va_pl L f) sz)) (va_Qi (fun r9 u => r9 = zI (sC S : Int) ∧ ∃ (L2 : List Nat) (F : Nat → va_E) (g2 : CG), u = va_pl L2 F ∧ gA g2 0 = gA g 0 ∧ cRep k L2 F g2 (addS S 10 i j y (1 + max (sD S i) (sD S j)))) (pB D (va_pl L f) sz) (va_A (va_pl L f) sz)) 5 57 (va_A (va_pl L f) sz) := by
  refine Met.ofW (cc := cX9_near) (maxL := 6) (ret := (some .int)) (by decide) rfl ?_
  intro p e s m args below meth c s₁ B hml hv
  obtain ⟨rfl, hsz, hn9, hP, hC, hD0⟩ := hv
  have hK := hC.1
  have hNW := hC.2.1
  have hx := B.exec
  have hb := B.bytes
  have hrt := B.returns
  have hts := atoms_spec (ws := wsX9_near) B.pre
  have hown : s.vm.findClass RX9 = some m.cls := findClass_of_methodNamed B.named
  have hlocks := B.notSynchronized
  subst hsz
  obtain ⟨A, hAd⟩ : ∃ A, A = va_A (va_pl L f) s.heap.size := ⟨_, rfl⟩
  have hD := hD0.self (sz := s.heap.size)
  rw [← hAd] at hD
  have hA : ∀ q : Nat, s.heap.size ≤ q → A q := fun q h => by rw [hAd]; exact Or.inr h
  have hAn : ∀ q : Nat, A q → n0 ≤ q := fun q h => by
    rw [hAd] at h
    rcases h with ⟨k9, e9, hk9⟩ | h
    · exact hD0.2 k9 _ hk9
    · exact Nat.le_trans hn9 h
  have hS : va_S A s.heap s.heap [] := va_S.rf
  have hi_X3 : ∀ w ∈ u_ws RX3 TX3 7, w ∈ wsX9_near := by decide +kernel
  have hi_X9 : ∀ w ∈ u_ws RX9 TX9 3, w ∈ wsX9_near := by decide +kernel
  have hw_0 := hts (.classLink RX9 123 RX3) (by decide +kernel)
  have hw_1 := hts (.instantiable RX3 7) (by decide +kernel)
  have hw_2 := hts (.initialized RX3) (by decide +kernel)
  have hw_3 := hts (.fieldLink RX9 22 "Regionry" "count" "I") (by decide +kernel)
  have hw_4 := hts (.methodLink RX9 125 yX3_init) (by decide +kernel)
  have hw_5 := hts (.instanceMethod yX3_init) (by decide +kernel)
  have hl := lv_entry ([.ref (gA g 0), .int (zI ((i : Int))), .int (zI ((j : Int))), .int (zI (y))]) (n := 6) (Nat.le_of_ble_eq_true rfl)
  rw [lg_entry_eq]
  generalize (lg_sl ([.ref (gA g 0), .int (zI ((i : Int))), .int (zI ((j : Int))), .int (zI (y))]) ++ List.replicate (6 - (lg_sl ([.ref (gA g 0), .int (zI ((i : Int))), .int (zI ((j : Int))), .int (zI (y))])).length) Slot.unset).toArray = ls at hl ⊢
  have hl : lv_has ls 6 [(0, .ref (gA g 0)), (1, .int (zI ((i : Int)))), (2, .int (zI ((j : Int)))), (3, .int (zI (y)))] := hl
  obtain ⟨Q, hQ⟩ : ∃ Q, Q = MQ below (va_Qi (fun r9 u => r9 = zI (sC S : Int) ∧ ∃ (L2 : List Nat) (F : Nat → va_E) (g2 : CG), u = va_pl L2 F ∧ gA g2 0 = gA g 0 ∧ cRep k L2 F g2 (addS S 10 i j y (1 + max (sD S i) (sD S j)))) (pB D (va_pl L f) s.heap.size) (va_A (va_pl L f) s.heap.size)) ([.ref (gA g 0), .int (zI ((i : Int))), .int (zI ((j : Int))), .int (zI (y))] : List Value).toArray s 5 57 (va_A (va_pl L f) s.heap.size) := ⟨_, rfl⟩
  rw [← hQ]
  obtain ⟨⟨a0, a1, a2, a3, a4⟩, aL, ao, aM, aE, aX⟩ := id hR
  have hn0 := hO.1
  have hc0 := hO.2.2.2.1
  have hdi := (hO.2.2.2.2 i hi).2.1
  have hdj := (hO.2.2.2.2 j hj).2.1
  refine lv_aload_n hx hb dX9_near_0 rfl (lv_at hl 0 rfl) ?_
  refine lv_iload_n hx hb dX9_near_1 rfl (lv_at hl 1 rfl) ?_
  refine va_csr (va_Run.run (va_runV (As := [.int (zI ((i : Int)))]) (rest := []) ⟨hx, hb, hml, hown, hts⟩ (kX9_expressionOf l D k L f g S hR hO i hi) (cwV 1 hts gX9_near_X9_expressionOf rfl rfl rfl (by decide +kernel) ⟨Nat.le_of_ble_eq_true rfl, Nat.le_of_ble_eq_true rfl⟩) (rc_preV hC hP (pl_recv hK hP (aL 0 (by decide)) a0 (ci := 8) (q := (RX9, TX9, 3)) rfl)) rfl rfl hl.1 rfl (lv_room (Nat.le_of_ble_eq_true rfl)) dX9_near_2 ⟨Nat.zero_le _, Nat.zero_le _⟩)) (fun r1 hr1 => ?_)
  subst hr1
  refine lv_astore (lv' := [(4, .ref (gN g 0 i)), (0, .ref (gA g 0)), (1, .int (zI ((i : Int)))), (2, .int (zI ((j : Int)))), (3, .int (zI (y)))]) hx hb dX9_near_5 hl (by decide) rfl (fun ls hl => ?_)
  refine lv_aload_n hx hb dX9_near_7 rfl (lv_at hl 1 rfl) ?_
  refine lv_iload_n hx hb dX9_near_8 rfl (lv_at hl 3 rfl) ?_
  refine va_csr (va_Run.run (va_runV (As := [.int (zI ((j : Int)))]) (rest := []) ⟨hx, hb, hml, hown, hts⟩ (kX9_expressionOf l D k L f g S hR hO j hj) (cwV 1 hts gX9_near_X9_expressionOf rfl rfl rfl (by decide +kernel) ⟨Nat.le_of_ble_eq_true rfl, Nat.le_of_ble_eq_true rfl⟩) (rc_preV hC hP (pl_recv hK hP (aL 0 (by decide)) a0 (ci := 8) (q := (RX9, TX9, 3)) rfl)) rfl rfl hl.1 rfl (lv_room (Nat.le_of_ble_eq_true rfl)) dX9_near_9 ⟨Nat.zero_le _, Nat.zero_le _⟩)) (fun r2 hr2 => ?_)
  subst hr2
  refine lv_astore (lv' := [(5, .ref (gN g 0 j)), (4, .ref (gN g 0 i)), (0, .ref (gA g 0)), (1, .int (zI ((i : Int)))), (2, .int (zI ((j : Int)))), (3, .int (zI (y)))]) hx hb dX9_near_12 hl (by decide) rfl (fun ls hl => ?_)
  refine lv_iload_n hx hb dX9_near_14 rfl (lv_at hl 5 rfl) ?_
  refine zr_if_lt (tgt := 24) hx hb dX9_near_15 (by decide) (by omega) (fun c3 => ?_) (fun c3 => ?_)
  · exfalso; omega
  · refine lv_iload_n hx hb dX9_near_18 rfl (lv_at hl 5 rfl) ?_
    refine zr_bipush hx hb dX9_near_19 (by decide) ?_
    refine zr_icmp_le (tgt := 34) hx hb dX9_near_21 (by decide) (by omega) (by omega) (fun c4 => ?_) (fun c4 => ?_)
    · refine lv_aload_n hx hb dX9_near_34 rfl (lv_at hl 2 rfl) ?_
      refine lv_aload hx hb dX9_near_35 (lv_at hl 1 rfl) ?_
      refine lv_aload hx hb dX9_near_37 (lv_at hl 0 rfl) ?_
      refine vp_callSi (va_Run.run (va_runS (As := [.ref (gN g 0 i), .ref (gN g 0 j)]) (rest := [.ref (gA g 0)]) ⟨hx, hb, hml, hown, hts⟩ (kX9_depthAbove l D k L f (gN g 0 i) (sD S i) (gD g i) (gN g 1 i) (gN g 3 i) (by omega) (aE i hi).2.1.1 (hR.ex hi) (gN g 0 j) (sD S j) (gD g j) (gN g 1 j) (gN g 3 j) (by omega) (aE j hj).2.1.1 (hR.ex hj)) (va_cwS 2 hts gX9_near_X9_depthAbove rfl rfl rfl (by decide +kernel) ⟨Nat.le_of_ble_eq_true rfl, Nat.le_of_ble_eq_true rfl⟩) (rc_preS hC hP) rfl rfl hl.1 rfl (lv_room (Nat.le_of_ble_eq_true rfl)) dX9_near_39 ⟨Nat.zero_le _, Nat.zero_le _⟩)) (fun r5 hr5 => ?_)
      subst hr5
      refine pc_callv (va_runV (As := [.int (zI (1 + max (sD S i) (sD S j)))]) (rest := []) ⟨hx, hb, hml, hown, hts⟩ (kX9_requireRoom l D k L f g S hR hO (1 + max (sD S i) (sD S j)) (by omega) hc n0 _) (cwV 1 hts gX9_near_X9_requireRoom rfl rfl rfl (by decide +kernel) ⟨Nat.le_of_ble_eq_true rfl, Nat.le_of_ble_eq_true rfl⟩) (pc_preV hC hP (Nat.le_trans hn9 hS.1) hD hAn (pl_recv hK hP (aL 0 (by decide)) a0 (ci := 8) (q := (RX9, TX9, 3)) rfl)) rfl rfl hl.1 rfl (lv_room (Nat.le_of_ble_eq_true rfl)) dX9_near_42 ⟨Nat.zero_le _, Nat.zero_le _⟩) hD hS hA (fun ur6 H locs hr6 hP hD hS hzr6 => ?_)
      subst hr6
      refine lv_aload_n hx hb dX9_near_45 rfl (lv_at hl 2 rfl) ?_
      refine pl_obj (ci := 2) (fs := [.int (0), .int (0), .null, .null, .null, .null, .int (0)]) (C := RX3) (T := TX3) (N := 7) hx hb hts hi_X3 tyX3 tyX3_ok hown hw_0 hw_1 hw_2 hK hP hD hS hA rfl (fun j hj => by rcases (show j = 0 ∨ j = 1 ∨ j = 2 ∨ j = 3 ∨ j = 4 ∨ j = 5 ∨ j = 6 by omega) with rfl | rfl | rfl | rfl | rfl | rfl | rfl <;> rfl) (Nat.le_of_ble_eq_true rfl) (Nat.le_of_ble_eq_true rfl) dX9_near_46 (fun q7 H hq7 hP hD hS => ?_)
      have hP : va_P D vwCl (va_pl (L ++ [q7]) (va_up f q7 (.inr (2, [.int (0), .int (0), .null, .null, .null, .null, .int (0)])))) H := hP
      have hD : va_D A (va_pl (L ++ [q7]) (va_up f q7 (.inr (2, [.int (0), .int (0), .null, .null, .null, .null, .int (0)])))) := hD
      refine lv_dup hx hb dX9_near_49 rfl ?_
      refine lv_aload_n hx hb dX9_near_50 rfl (lv_at hl 2 rfl) ?_
      refine pl_get (ci := 8) (v := .int (zI ((sC S : Int)))) (C := RX9) (T := TX9) (N := 3) hx hb hts hi_X9 hown hK hP (List.mem_append_left _ (aL 0 (by decide))) ((va_up_ne _ _ (ne_new (aL 0 (by decide)) hq7)).trans a0) rfl 2 (by decide) hw_3 (fun _ h9 => h9) rfl dX9_near_51 ?_
      refine lv_aload hx hb dX9_near_54 (lv_at hl 1 rfl) ?_
      refine lv_aload hx hb dX9_near_56 (lv_at hl 0 rfl) ?_
      refine lv_iload_n hx hb dX9_near_58 rfl (lv_at hl 5 rfl) ?_
      refine pc_callv (va_runI (As := [.int (zI ((sC S : Int))), .ref (gN g 0 i), .ref (gN g 0 j), .int (zI (y))]) (rest := [.ref q7, .ref (gA g 0)]) ⟨hx, hb, hml, hown, hts⟩ (kX3_init l D k (L ++ [q7]) (va_up f q7 (.inr (2, [.int (0), .int (0), .null, .null, .null, .null, .int (0)]))) q7 (List.mem_append_right _ (List.mem_singleton.mpr rfl)) (va_up_self _ _ _) ((sC S : Int)) (by omega) (gN g 0 i) (sD S i) (gD g i) (gN g 1 i) (gN g 3 i) (by omega) (List.mem_append_left _ (aE i hi).2.1.1) (exAt.up (ne_new (aE i hi).2.1.1 hq7) (hR.ex hi)) (gN g 0 j) (sD S j) (gD g j) (gN g 1 j) (gN g 3 j) (by omega) (List.mem_append_left _ (aE j hj).2.1.1) (exAt.up (ne_new (aE j hj).2.1.1 hq7) (hR.ex hj)) (ne_new (aE i hi).2.1.1 hq7) (ne_new (aE j hj).2.1.1 hq7) (zI (y)) n0 _) (cwI 4 hts gX9_near_X3_init rfl rfl rfl hw_2 hw_4 hw_5 rfl (by decide +kernel) ⟨Nat.le_of_ble_eq_true rfl, Nat.le_of_ble_eq_true rfl⟩) (pc_preS hC hP (Nat.le_trans hn9 hS.1) hD hAn) rfl rfl hl.1 rfl (lv_room (Nat.le_of_ble_eq_true rfl)) dX9_near_59 ⟨Nat.le_of_ble_eq_true rfl, Nat.le_of_ble_eq_true rfl⟩) hD hS hA (fun ur8 H locs hr8 hP hD hS hzr8 => ?_)
      obtain ⟨qar8, hqar8, rar8, hrar8, qbr8, hqbr8, rbr8, hrbr8, Fr8, rfl, hFhr8, hFar8, hFbr8, hFcr8, hFdr8, hFor8⟩ := hr8
      refine pc_calli (va_runV (As := [.ref q7]) (rest := []) ⟨hx, hb, hml, hown, hts⟩ (kX9_keep l D k (L ++ [q7] ++ [qar8] ++ [rar8] ++ [qbr8] ++ [rbr8]) Fr8 (gA g 0) (gA g 1) (gA g 4) q7 (sC S) qar8 qbr8 ((gE g)) (zI (1 + max (sD S i) (sD S j))) (((gD g i) ||| (gD g j)) ||| pw ((sC S : Int)).toNat) (List.mem_append_left _ (List.mem_append_left _ (List.mem_append_left _ (List.mem_append_left _ (List.mem_append_left _ (aL 0 (by decide))))))) ((hFor8 _ (List.mem_append_left _ (aL 0 (by decide))) (ne_new (aL 0 (by decide)) hq7)).trans ((va_up_ne _ _ (ne_new (aL 0 (by decide)) hq7)).trans a0)) (List.mem_append_left _ (List.mem_append_left _ (List.mem_append_left _ (List.mem_append_left _ (List.mem_append_left _ (aL 4 (by decide))))))) ((hFor8 _ (List.mem_append_left _ (aL 4 (by decide))) (ne_new (aL 4 (by decide)) hq7)).trans ((va_up_ne _ _ (ne_new (aL 4 (by decide)) hq7)).trans a4)) hc (List.mem_append_left _ (List.mem_append_left _ (List.mem_append_left _ (List.mem_append_left _ (List.mem_append_right _ (List.mem_singleton.mpr rfl)))))) ⟨2, [.ref (gN g 0 i), .ref (gN g 0 j), .int ((zI (y)))], by unfold exC; omega, hFhr8⟩ n0 _) (cwV 1 hts gX9_near_X9_keep rfl rfl rfl (by decide +kernel) ⟨Nat.le_of_ble_eq_true rfl, Nat.le_of_ble_eq_true rfl⟩) (pc_preV hC hP (Nat.le_trans hn9 hS.1) hD hAn (pl_recv hK hP (List.mem_append_left _ (List.mem_append_left _ (List.mem_append_left _ (List.mem_append_left _ (List.mem_append_left _ (aL 0 (by decide))))))) ((hFor8 _ (List.mem_append_left _ (aL 0 (by decide))) (ne_new (aL 0 (by decide)) hq7)).trans ((va_up_ne _ _ (ne_new (aL 0 (by decide)) hq7)).trans a0)) (ci := 8) (q := (RX9, TX9, 3)) rfl)) rfl rfl hl.1 rfl (lv_room (Nat.le_of_ble_eq_true rfl)) dX9_near_62 ⟨Nat.le_of_ble_eq_true rfl, Nat.le_of_ble_eq_true rfl⟩) hD hS hA (fun r9 ur9 H locs hr9 hP hD hS hzr9 => ?_)
      obtain ⟨rfl, rfl⟩ := hr9
      rw [hQ]
      exact pc_iret hx hb hrt hP (by rw [← hAd]; exact hD) (by rw [← hAd]; exact hS) (by refine ⟨rfl, ?_⟩; exact addP hR hO hc hrar8 hrbr8 (by decide) hFhr8 (nodeV_10 hi hj) hFar8 hFbr8 hFcr8 hFdr8 (fun a9 ha9 => ((hFor8 _ (List.mem_append_left _ ha9) (ne_new ha9 hq7)).trans (va_up_ne _ _ (ne_new ha9 hq7)))) (needP hc hi hj (aE i hi).2.2.2.2.2 (aE j hj).2.2.2.2.2 (bt_new hc))) dX9_near_65 hlocks
    · exfalso; omega

set_option maxHeartbeats 4000000 in
set_option maxRecDepth 100000 in
theorem kX9_near_x (l : Launch) (D : va_G) (k : Nat → ClassId) (L : List Nat) (f : Nat → va_E) (g : CG) (S : SA) (hR : cRep k L f g S) (hO : aOK S) (z : Int) (hz : -2147483648 ≤ z ∧ z < 2147483648) (hz2 : ¬ (0 ≤ z ∧ z < (sC S : Int))) (y x : Int) (hlt : l.stackTraces = false) (n0 sz : Nat) : vx_Met l yX9_near wsX9_near ({ frames := 7, cells := 1, slots := 6, locals := 103 } : Room) (va_Pc [.ref (gA g 0), .int (zI (z)), .int (zI (x)), .int (zI (y))] (xPre D (tyL k) n0 (va_pl L f) sz)) (va_Qv (fun _ => False) (pB D (va_pl L f) sz) (va_A (va_pl L f) sz)) (xX D (va_pl L f) sz (fun E u => E = "java/lang/IndexOutOfBoundsException" ∧ u = va_pl L f)) 1 6 (va_A (va_pl L f) sz) := by
  refine vx_ofW (cc := cX9_near) (maxL := 6) (ret := (some .int)) (by decide) rfl ?_
  intro p e s m args below meth c s₁ B hml hno hv
  obtain ⟨rfl, ⟨hsz, hn9, hP, hC, hD0⟩, hX⟩ := hv
  have hK := hC.1
  have hNW := hC.2.1
  have hx := B.exec
  have hb := B.bytes
  have hrt := B.returns
  have hts := atoms_spec (ws := wsX9_near) B.pre
  have hown : s.vm.findClass RX9 = some m.cls := findClass_of_methodNamed B.named
  have hlocks := B.notSynchronized
  subst hsz
  obtain ⟨A, hAd⟩ : ∃ A, A = va_A (va_pl L f) s.heap.size := ⟨_, rfl⟩
  have hD := hD0.self (sz := s.heap.size)
  rw [← hAd] at hD
  have hA : ∀ q : Nat, s.heap.size ≤ q → A q := fun q h => by rw [hAd]; exact Or.inr h
  have hAn : ∀ q : Nat, A q → n0 ≤ q := fun q h => by
    rw [hAd] at h
    rcases h with ⟨k9, e9, hk9⟩ | h
    · exact hD0.2 k9 _ hk9
    · exact Nat.le_trans hn9 h
  have hS : va_S A s.heap s.heap [] := va_S.rf
  have hl := lv_entry ([.ref (gA g 0), .int (zI (z)), .int (zI (x)), .int (zI (y))]) (n := 6) (Nat.le_of_ble_eq_true rfl)
  rw [lg_entry_eq]
  generalize (lg_sl ([.ref (gA g 0), .int (zI (z)), .int (zI (x)), .int (zI (y))]) ++ List.replicate (6 - (lg_sl ([.ref (gA g 0), .int (zI (z)), .int (zI (x)), .int (zI (y))])).length) Slot.unset).toArray = ls at hl ⊢
  have hl : lv_has ls 6 [(0, .ref (gA g 0)), (1, .int (zI (z))), (2, .int (zI (x))), (3, .int (zI (y)))] := hl
  obtain ⟨Q, hQ⟩ : ∃ Q, Q = vx_MQ below (va_Qv (fun _ => False) (pB D (va_pl L f) s.heap.size) (va_A (va_pl L f) s.heap.size)) (xX D (va_pl L f) s.heap.size (fun E u => E = "java/lang/IndexOutOfBoundsException" ∧ u = va_pl L f)) ([.ref (gA g 0), .int (zI (z)), .int (zI (x)), .int (zI (y))] : List Value).toArray s 1 6 (va_A (va_pl L f) s.heap.size) := ⟨_, rfl⟩
  rw [← hQ]
  obtain ⟨⟨a0, a1, a2, a3, a4⟩, aL, ao, aM, aE, aX⟩ := id hR
  have hn0 := hO.1
  have hc0 := hO.2.2.2.1
  refine lv_aload_n hx hb dX9_near_0 rfl (lv_at hl 0 rfl) ?_
  refine lv_iload_n hx hb dX9_near_1 rfl (lv_at hl 1 rfl) ?_
  rw [hQ]
  exact px_outv (vx_runV (As := [.int (zI (z))]) (rest := []) ⟨hx, hb, hml, hown, hts⟩ (kX9_expressionOf_x l D k L f g S hR hO z hz hz2 hlt n0 _) (cwV 1 hts gX9_near_X9_expressionOf rfl rfl rfl (by decide +kernel) ⟨Nat.le_of_ble_eq_true rfl, Nat.le_of_ble_eq_true rfl⟩) (xc_preV hC hX hP (Nat.le_trans hn9 hS.1) hD hS hAn (pl_recv hK hP (aL 0 (by decide)) a0 (ci := 8) (q := (RX9, TX9, 3)) rfl)) rfl rfl hl.1 rfl (lv_room (Nat.le_of_ble_eq_true rfl)) dX9_near_2 ⟨Nat.le_of_ble_eq_true rfl, Nat.le_of_ble_eq_true rfl⟩) (by rw [← hAd]; exact hD) (by rw [← hAd]; exact hS) hlocks hno (Nat.le_of_ble_eq_true rfl) (Nat.le_of_ble_eq_true rfl) (fun E u h => h)

set_option maxHeartbeats 4000000 in
set_option maxRecDepth 100000 in
theorem kX9_near_x2 (l : Launch) (D : va_G) (k : Nat → ClassId) (L : List Nat) (f : Nat → va_E) (g : CG) (S : SA) (hR : cRep k L f g S) (hO : aOK S) (i : Nat) (hi : i < sC S) (z : Int) (hz : -2147483648 ≤ z ∧ z < 2147483648) (hz2 : ¬ (0 ≤ z ∧ z < (sC S : Int))) (y : Int) (hlt : l.stackTraces = false) (n0 sz : Nat) : vx_Met l yX9_near wsX9_near ({ frames := 7, cells := 1, slots := 6, locals := 103 } : Room) (va_Pc [.ref (gA g 0), .int (zI ((i : Int))), .int (zI (z)), .int (zI (y))] (xPre D (tyL k) n0 (va_pl L f) sz)) (va_Qv (fun _ => False) (pB D (va_pl L f) sz) (va_A (va_pl L f) sz)) (xX D (va_pl L f) sz (fun E u => E = "java/lang/IndexOutOfBoundsException" ∧ u = va_pl L f)) 1 6 (va_A (va_pl L f) sz) := by
  refine vx_ofW (cc := cX9_near) (maxL := 6) (ret := (some .int)) (by decide) rfl ?_
  intro p e s m args below meth c s₁ B hml hno hv
  obtain ⟨rfl, ⟨hsz, hn9, hP, hC, hD0⟩, hX⟩ := hv
  have hK := hC.1
  have hNW := hC.2.1
  have hx := B.exec
  have hb := B.bytes
  have hrt := B.returns
  have hts := atoms_spec (ws := wsX9_near) B.pre
  have hown : s.vm.findClass RX9 = some m.cls := findClass_of_methodNamed B.named
  have hlocks := B.notSynchronized
  subst hsz
  obtain ⟨A, hAd⟩ : ∃ A, A = va_A (va_pl L f) s.heap.size := ⟨_, rfl⟩
  have hD := hD0.self (sz := s.heap.size)
  rw [← hAd] at hD
  have hA : ∀ q : Nat, s.heap.size ≤ q → A q := fun q h => by rw [hAd]; exact Or.inr h
  have hAn : ∀ q : Nat, A q → n0 ≤ q := fun q h => by
    rw [hAd] at h
    rcases h with ⟨k9, e9, hk9⟩ | h
    · exact hD0.2 k9 _ hk9
    · exact Nat.le_trans hn9 h
  have hS : va_S A s.heap s.heap [] := va_S.rf
  have hl := lv_entry ([.ref (gA g 0), .int (zI ((i : Int))), .int (zI (z)), .int (zI (y))]) (n := 6) (Nat.le_of_ble_eq_true rfl)
  rw [lg_entry_eq]
  generalize (lg_sl ([.ref (gA g 0), .int (zI ((i : Int))), .int (zI (z)), .int (zI (y))]) ++ List.replicate (6 - (lg_sl ([.ref (gA g 0), .int (zI ((i : Int))), .int (zI (z)), .int (zI (y))])).length) Slot.unset).toArray = ls at hl ⊢
  have hl : lv_has ls 6 [(0, .ref (gA g 0)), (1, .int (zI ((i : Int)))), (2, .int (zI (z))), (3, .int (zI (y)))] := hl
  obtain ⟨Q, hQ⟩ : ∃ Q, Q = vx_MQ below (va_Qv (fun _ => False) (pB D (va_pl L f) s.heap.size) (va_A (va_pl L f) s.heap.size)) (xX D (va_pl L f) s.heap.size (fun E u => E = "java/lang/IndexOutOfBoundsException" ∧ u = va_pl L f)) ([.ref (gA g 0), .int (zI ((i : Int))), .int (zI (z)), .int (zI (y))] : List Value).toArray s 1 6 (va_A (va_pl L f) s.heap.size) := ⟨_, rfl⟩
  rw [← hQ]
  obtain ⟨⟨a0, a1, a2, a3, a4⟩, aL, ao, aM, aE, aX⟩ := id hR
  have hn0 := hO.1
  have hc0 := hO.2.2.2.1
  refine lv_aload_n hx hb dX9_near_0 rfl (lv_at hl 0 rfl) ?_
  refine lv_iload_n hx hb dX9_near_1 rfl (lv_at hl 1 rfl) ?_
  refine va_csr (va_Run.run (va_runV (As := [.int (zI ((i : Int)))]) (rest := []) ⟨hx, hb, hml, hown, hts⟩ (kX9_expressionOf l D k L f g S hR hO i hi) (cwV 1 hts gX9_near_X9_expressionOf rfl rfl rfl (by decide +kernel) ⟨Nat.le_of_ble_eq_true rfl, Nat.le_of_ble_eq_true rfl⟩) (rc_preV hC hP (pl_recv hK hP (aL 0 (by decide)) a0 (ci := 8) (q := (RX9, TX9, 3)) rfl)) rfl rfl hl.1 rfl (lv_room (Nat.le_of_ble_eq_true rfl)) dX9_near_2 ⟨Nat.zero_le _, Nat.zero_le _⟩)) (fun r1 hr1 => ?_)
  subst hr1
  refine lv_astore (lv' := [(4, .ref (gN g 0 i)), (0, .ref (gA g 0)), (1, .int (zI ((i : Int)))), (2, .int (zI (z))), (3, .int (zI (y)))]) hx hb dX9_near_5 hl (by decide) rfl (fun ls hl => ?_)
  refine lv_aload_n hx hb dX9_near_7 rfl (lv_at hl 1 rfl) ?_
  refine lv_iload_n hx hb dX9_near_8 rfl (lv_at hl 3 rfl) ?_
  rw [hQ]
  exact px_outv (vx_runV (As := [.int (zI (z))]) (rest := []) ⟨hx, hb, hml, hown, hts⟩ (kX9_expressionOf_x l D k L f g S hR hO z hz hz2 hlt n0 _) (cwV 1 hts gX9_near_X9_expressionOf rfl rfl rfl (by decide +kernel) ⟨Nat.le_of_ble_eq_true rfl, Nat.le_of_ble_eq_true rfl⟩) (xc_preV hC hX hP (Nat.le_trans hn9 hS.1) hD hS hAn (pl_recv hK hP (aL 0 (by decide)) a0 (ci := 8) (q := (RX9, TX9, 3)) rfl)) rfl rfl hl.1 rfl (lv_room (Nat.le_of_ble_eq_true rfl)) dX9_near_9 ⟨Nat.le_of_ble_eq_true rfl, Nat.le_of_ble_eq_true rfl⟩) (by rw [← hAd]; exact hD) (by rw [← hAd]; exact hS) hlocks hno (Nat.le_of_ble_eq_true rfl) (Nat.le_of_ble_eq_true rfl) (fun E u h => h)

set_option maxHeartbeats 4000000 in
set_option maxRecDepth 100000 in
theorem kX9_near_x3 (l : Launch) (D : va_G) (k : Nat → ClassId) (L : List Nat) (f : Nat → va_E) (g : CG) (S : SA) (hR : cRep k L f g S) (hO : aOK S) (i : Nat) (hi : i < sC S) (j : Nat) (hj : j < sC S) (y : Int) (hy : -2147483648 ≤ y ∧ y < 2147483648) (hy2 : ¬ (0 ≤ y ∧ y ≤ 24)) (hlt : l.stackTraces = false) (n0 sz : Nat) : vx_Met l yX9_near wsX9_near ({ frames := 6, cells := 1, slots := 6, locals := 82 } : Room) (va_Pc [.ref (gA g 0), .int (zI ((i : Int))), .int (zI ((j : Int))), .int (zI (y))] (xPre D (tyL k) n0 (va_pl L f) sz)) (va_Qv (fun _ => False) (pB D (va_pl L f) sz) (va_A (va_pl L f) sz)) (xX D (va_pl L f) sz (fun E u => E = "java/lang/IllegalArgumentException" ∧ u = va_pl L f)) 1 6 (va_A (va_pl L f) sz) := by
  refine vx_ofW (cc := cX9_near) (maxL := 6) (ret := (some .int)) (by decide) rfl ?_
  intro p e s m args below meth c s₁ B hml hno hv
  obtain ⟨rfl, ⟨hsz, hn9, hP, hC, hD0⟩, hX⟩ := hv
  have hK := hC.1
  have hNW := hC.2.1
  have hx := B.exec
  have hb := B.bytes
  have hrt := B.returns
  have hts := atoms_spec (ws := wsX9_near) B.pre
  have hown : s.vm.findClass RX9 = some m.cls := findClass_of_methodNamed B.named
  have hlocks := B.notSynchronized
  subst hsz
  obtain ⟨A, hAd⟩ : ∃ A, A = va_A (va_pl L f) s.heap.size := ⟨_, rfl⟩
  have hD := hD0.self (sz := s.heap.size)
  rw [← hAd] at hD
  have hA : ∀ q : Nat, s.heap.size ≤ q → A q := fun q h => by rw [hAd]; exact Or.inr h
  have hAn : ∀ q : Nat, A q → n0 ≤ q := fun q h => by
    rw [hAd] at h
    rcases h with ⟨k9, e9, hk9⟩ | h
    · exact hD0.2 k9 _ hk9
    · exact Nat.le_trans hn9 h
  have hS : va_S A s.heap s.heap [] := va_S.rf
  have hw_0 := hts (.classLink RX9 48 "java/lang/IllegalArgumentException") (by decide +kernel)
  have hw_1 := hts (.initialized "java/lang/IllegalArgumentException") (by decide +kernel)
  have hl := lv_entry ([.ref (gA g 0), .int (zI ((i : Int))), .int (zI ((j : Int))), .int (zI (y))]) (n := 6) (Nat.le_of_ble_eq_true rfl)
  rw [lg_entry_eq]
  generalize (lg_sl ([.ref (gA g 0), .int (zI ((i : Int))), .int (zI ((j : Int))), .int (zI (y))]) ++ List.replicate (6 - (lg_sl ([.ref (gA g 0), .int (zI ((i : Int))), .int (zI ((j : Int))), .int (zI (y))])).length) Slot.unset).toArray = ls at hl ⊢
  have hl : lv_has ls 6 [(0, .ref (gA g 0)), (1, .int (zI ((i : Int)))), (2, .int (zI ((j : Int)))), (3, .int (zI (y)))] := hl
  obtain ⟨Q, hQ⟩ : ∃ Q, Q = vx_MQ below (va_Qv (fun _ => False) (pB D (va_pl L f) s.heap.size) (va_A (va_pl L f) s.heap.size)) (xX D (va_pl L f) s.heap.size (fun E u => E = "java/lang/IllegalArgumentException" ∧ u = va_pl L f)) ([.ref (gA g 0), .int (zI ((i : Int))), .int (zI ((j : Int))), .int (zI (y))] : List Value).toArray s 1 6 (va_A (va_pl L f) s.heap.size) := ⟨_, rfl⟩
  rw [← hQ]
  obtain ⟨⟨a0, a1, a2, a3, a4⟩, aL, ao, aM, aE, aX⟩ := id hR
  have hn0 := hO.1
  have hc0 := hO.2.2.2.1
  have hdi := (hO.2.2.2.2 i hi).2.1
  have hdj := (hO.2.2.2.2 j hj).2.1
  refine lv_aload_n hx hb dX9_near_0 rfl (lv_at hl 0 rfl) ?_
  refine lv_iload_n hx hb dX9_near_1 rfl (lv_at hl 1 rfl) ?_
  refine va_csr (va_Run.run (va_runV (As := [.int (zI ((i : Int)))]) (rest := []) ⟨hx, hb, hml, hown, hts⟩ (kX9_expressionOf l D k L f g S hR hO i hi) (cwV 1 hts gX9_near_X9_expressionOf rfl rfl rfl (by decide +kernel) ⟨Nat.le_of_ble_eq_true rfl, Nat.le_of_ble_eq_true rfl⟩) (rc_preV hC hP (pl_recv hK hP (aL 0 (by decide)) a0 (ci := 8) (q := (RX9, TX9, 3)) rfl)) rfl rfl hl.1 rfl (lv_room (Nat.le_of_ble_eq_true rfl)) dX9_near_2 ⟨Nat.zero_le _, Nat.zero_le _⟩)) (fun r1 hr1 => ?_)
  subst hr1
  refine lv_astore (lv' := [(4, .ref (gN g 0 i)), (0, .ref (gA g 0)), (1, .int (zI ((i : Int)))), (2, .int (zI ((j : Int)))), (3, .int (zI (y)))]) hx hb dX9_near_5 hl (by decide) rfl (fun ls hl => ?_)
  refine lv_aload_n hx hb dX9_near_7 rfl (lv_at hl 1 rfl) ?_
  refine lv_iload_n hx hb dX9_near_8 rfl (lv_at hl 3 rfl) ?_
  refine va_csr (va_Run.run (va_runV (As := [.int (zI ((j : Int)))]) (rest := []) ⟨hx, hb, hml, hown, hts⟩ (kX9_expressionOf l D k L f g S hR hO j hj) (cwV 1 hts gX9_near_X9_expressionOf rfl rfl rfl (by decide +kernel) ⟨Nat.le_of_ble_eq_true rfl, Nat.le_of_ble_eq_true rfl⟩) (rc_preV hC hP (pl_recv hK hP (aL 0 (by decide)) a0 (ci := 8) (q := (RX9, TX9, 3)) rfl)) rfl rfl hl.1 rfl (lv_room (Nat.le_of_ble_eq_true rfl)) dX9_near_9 ⟨Nat.zero_le _, Nat.zero_le _⟩)) (fun r2 hr2 => ?_)
  subst hr2
  refine lv_astore (lv' := [(5, .ref (gN g 0 j)), (4, .ref (gN g 0 i)), (0, .ref (gA g 0)), (1, .int (zI ((i : Int)))), (2, .int (zI ((j : Int)))), (3, .int (zI (y)))]) hx hb dX9_near_12 hl (by decide) rfl (fun ls hl => ?_)
  refine lv_iload_n hx hb dX9_near_14 rfl (lv_at hl 5 rfl) ?_
  refine zr_if_lt (tgt := 24) hx hb dX9_near_15 (by decide) (by omega) (fun c3 => ?_) (fun c3 => ?_)
  · rw [hQ]
    exact px_throw (own := RX9) (cls := "java/lang/IllegalArgumentException") (text := "no such gap") (ik := 48) (is := 121) (ic := 52) hx hb hlt hown (by decide) hw_0 hw_1 (by decide) hX (px_hat hts hNW hX (by decide +kernel) (by decide +kernel) (by decide +kernel)) (by decide +kernel) hP (by rw [← hAd]; exact hD) (by rw [← hAd]; exact hS) (by rw [← hAd]; exact hAn) (hl.1.trans hml.symm) dX9_near_24 dX9_near_27 dX9_near_28 dX9_near_30 dX9_near_33 hno (Nat.le_of_ble_eq_true rfl) (Nat.le_of_ble_eq_true rfl) (Nat.le_of_ble_eq_true rfl) (Nat.le_of_ble_eq_true rfl) hlocks (Nat.le_of_ble_eq_true rfl) (Nat.le_of_ble_eq_true rfl) (⟨rfl, rfl⟩)
  · refine lv_iload_n hx hb dX9_near_18 rfl (lv_at hl 5 rfl) ?_
    refine zr_bipush hx hb dX9_near_19 (by decide) ?_
    refine zr_icmp_le (tgt := 34) hx hb dX9_near_21 (by decide) (by omega) (by omega) (fun c4 => ?_) (fun c4 => ?_)
    · exfalso; omega
    · rw [hQ]
      exact px_throw (own := RX9) (cls := "java/lang/IllegalArgumentException") (text := "no such gap") (ik := 48) (is := 121) (ic := 52) hx hb hlt hown (by decide) hw_0 hw_1 (by decide) hX (px_hat hts hNW hX (by decide +kernel) (by decide +kernel) (by decide +kernel)) (by decide +kernel) hP (by rw [← hAd]; exact hD) (by rw [← hAd]; exact hS) (by rw [← hAd]; exact hAn) (hl.1.trans hml.symm) dX9_near_24 dX9_near_27 dX9_near_28 dX9_near_30 dX9_near_33 hno (Nat.le_of_ble_eq_true rfl) (Nat.le_of_ble_eq_true rfl) (Nat.le_of_ble_eq_true rfl) (Nat.le_of_ble_eq_true rfl) hlocks (Nat.le_of_ble_eq_true rfl) (Nat.le_of_ble_eq_true rfl) (⟨rfl, rfl⟩)

set_option maxHeartbeats 4000000 in
set_option maxRecDepth 100000 in
theorem kX9_near_x4 (l : Launch) (D : va_G) (k : Nat → ClassId) (L : List Nat) (f : Nat → va_E) (g : CG) (S : SA) (hR : cRep k L f g S) (hO : aOK S) (i : Nat) (hi : i < sC S) (j : Nat) (hj : j < sC S) (y : Int) (hy : 0 ≤ y ∧ y ≤ 24) (hc : 30 ≤ sC S ∨ 6 < (1 + max (sD S i) (sD S j))) (hlt : l.stackTraces = false) (n0 sz : Nat) : vx_Met l yX9_near wsX9_near ({ frames := 7, cells := 1, slots := 6, locals := 103 } : Room) (va_Pc [.ref (gA g 0), .int (zI ((i : Int))), .int (zI ((j : Int))), .int (zI (y))] (xPre D (tyL k) n0 (va_pl L f) sz)) (va_Qv (fun _ => False) (pB D (va_pl L f) sz) (va_A (va_pl L f) sz)) (xX D (va_pl L f) sz (fun E u => E = "java/lang/IllegalStateException" ∧ u = va_pl L f)) 1 6 (va_A (va_pl L f) sz) := by
  refine vx_ofW (cc := cX9_near) (maxL := 6) (ret := (some .int)) (by decide) rfl ?_
  intro p e s m args below meth c s₁ B hml hno hv
  obtain ⟨rfl, ⟨hsz, hn9, hP, hC, hD0⟩, hX⟩ := hv
  have hK := hC.1
  have hNW := hC.2.1
  have hx := B.exec
  have hb := B.bytes
  have hrt := B.returns
  have hts := atoms_spec (ws := wsX9_near) B.pre
  have hown : s.vm.findClass RX9 = some m.cls := findClass_of_methodNamed B.named
  have hlocks := B.notSynchronized
  subst hsz
  obtain ⟨A, hAd⟩ : ∃ A, A = va_A (va_pl L f) s.heap.size := ⟨_, rfl⟩
  have hD := hD0.self (sz := s.heap.size)
  rw [← hAd] at hD
  have hA : ∀ q : Nat, s.heap.size ≤ q → A q := fun q h => by rw [hAd]; exact Or.inr h
  have hAn : ∀ q : Nat, A q → n0 ≤ q := fun q h => by
    rw [hAd] at h
    rcases h with ⟨k9, e9, hk9⟩ | h
    · exact hD0.2 k9 _ hk9
    · exact Nat.le_trans hn9 h
  have hS : va_S A s.heap s.heap [] := va_S.rf
  have hl := lv_entry ([.ref (gA g 0), .int (zI ((i : Int))), .int (zI ((j : Int))), .int (zI (y))]) (n := 6) (Nat.le_of_ble_eq_true rfl)
  rw [lg_entry_eq]
  generalize (lg_sl ([.ref (gA g 0), .int (zI ((i : Int))), .int (zI ((j : Int))), .int (zI (y))]) ++ List.replicate (6 - (lg_sl ([.ref (gA g 0), .int (zI ((i : Int))), .int (zI ((j : Int))), .int (zI (y))])).length) Slot.unset).toArray = ls at hl ⊢
  have hl : lv_has ls 6 [(0, .ref (gA g 0)), (1, .int (zI ((i : Int)))), (2, .int (zI ((j : Int)))), (3, .int (zI (y)))] := hl
  obtain ⟨Q, hQ⟩ : ∃ Q, Q = vx_MQ below (va_Qv (fun _ => False) (pB D (va_pl L f) s.heap.size) (va_A (va_pl L f) s.heap.size)) (xX D (va_pl L f) s.heap.size (fun E u => E = "java/lang/IllegalStateException" ∧ u = va_pl L f)) ([.ref (gA g 0), .int (zI ((i : Int))), .int (zI ((j : Int))), .int (zI (y))] : List Value).toArray s 1 6 (va_A (va_pl L f) s.heap.size) := ⟨_, rfl⟩
  rw [← hQ]
  obtain ⟨⟨a0, a1, a2, a3, a4⟩, aL, ao, aM, aE, aX⟩ := id hR
  have hn0 := hO.1
  have hc0 := hO.2.2.2.1
  have hdi := (hO.2.2.2.2 i hi).2.1
  have hdj := (hO.2.2.2.2 j hj).2.1
  refine lv_aload_n hx hb dX9_near_0 rfl (lv_at hl 0 rfl) ?_
  refine lv_iload_n hx hb dX9_near_1 rfl (lv_at hl 1 rfl) ?_
  refine va_csr (va_Run.run (va_runV (As := [.int (zI ((i : Int)))]) (rest := []) ⟨hx, hb, hml, hown, hts⟩ (kX9_expressionOf l D k L f g S hR hO i hi) (cwV 1 hts gX9_near_X9_expressionOf rfl rfl rfl (by decide +kernel) ⟨Nat.le_of_ble_eq_true rfl, Nat.le_of_ble_eq_true rfl⟩) (rc_preV hC hP (pl_recv hK hP (aL 0 (by decide)) a0 (ci := 8) (q := (RX9, TX9, 3)) rfl)) rfl rfl hl.1 rfl (lv_room (Nat.le_of_ble_eq_true rfl)) dX9_near_2 ⟨Nat.zero_le _, Nat.zero_le _⟩)) (fun r1 hr1 => ?_)
  subst hr1
  refine lv_astore (lv' := [(4, .ref (gN g 0 i)), (0, .ref (gA g 0)), (1, .int (zI ((i : Int)))), (2, .int (zI ((j : Int)))), (3, .int (zI (y)))]) hx hb dX9_near_5 hl (by decide) rfl (fun ls hl => ?_)
  refine lv_aload_n hx hb dX9_near_7 rfl (lv_at hl 1 rfl) ?_
  refine lv_iload_n hx hb dX9_near_8 rfl (lv_at hl 3 rfl) ?_
  refine va_csr (va_Run.run (va_runV (As := [.int (zI ((j : Int)))]) (rest := []) ⟨hx, hb, hml, hown, hts⟩ (kX9_expressionOf l D k L f g S hR hO j hj) (cwV 1 hts gX9_near_X9_expressionOf rfl rfl rfl (by decide +kernel) ⟨Nat.le_of_ble_eq_true rfl, Nat.le_of_ble_eq_true rfl⟩) (rc_preV hC hP (pl_recv hK hP (aL 0 (by decide)) a0 (ci := 8) (q := (RX9, TX9, 3)) rfl)) rfl rfl hl.1 rfl (lv_room (Nat.le_of_ble_eq_true rfl)) dX9_near_9 ⟨Nat.zero_le _, Nat.zero_le _⟩)) (fun r2 hr2 => ?_)
  subst hr2
  refine lv_astore (lv' := [(5, .ref (gN g 0 j)), (4, .ref (gN g 0 i)), (0, .ref (gA g 0)), (1, .int (zI ((i : Int)))), (2, .int (zI ((j : Int)))), (3, .int (zI (y)))]) hx hb dX9_near_12 hl (by decide) rfl (fun ls hl => ?_)
  refine lv_iload_n hx hb dX9_near_14 rfl (lv_at hl 5 rfl) ?_
  refine zr_if_lt (tgt := 24) hx hb dX9_near_15 (by decide) (by omega) (fun c3 => ?_) (fun c3 => ?_)
  · exfalso; omega
  · refine lv_iload_n hx hb dX9_near_18 rfl (lv_at hl 5 rfl) ?_
    refine zr_bipush hx hb dX9_near_19 (by decide) ?_
    refine zr_icmp_le (tgt := 34) hx hb dX9_near_21 (by decide) (by omega) (by omega) (fun c4 => ?_) (fun c4 => ?_)
    · refine lv_aload_n hx hb dX9_near_34 rfl (lv_at hl 2 rfl) ?_
      refine lv_aload hx hb dX9_near_35 (lv_at hl 1 rfl) ?_
      refine lv_aload hx hb dX9_near_37 (lv_at hl 0 rfl) ?_
      refine vp_callSi (va_Run.run (va_runS (As := [.ref (gN g 0 i), .ref (gN g 0 j)]) (rest := [.ref (gA g 0)]) ⟨hx, hb, hml, hown, hts⟩ (kX9_depthAbove l D k L f (gN g 0 i) (sD S i) (gD g i) (gN g 1 i) (gN g 3 i) (by omega) (aE i hi).2.1.1 (hR.ex hi) (gN g 0 j) (sD S j) (gD g j) (gN g 1 j) (gN g 3 j) (by omega) (aE j hj).2.1.1 (hR.ex hj)) (va_cwS 2 hts gX9_near_X9_depthAbove rfl rfl rfl (by decide +kernel) ⟨Nat.le_of_ble_eq_true rfl, Nat.le_of_ble_eq_true rfl⟩) (rc_preS hC hP) rfl rfl hl.1 rfl (lv_room (Nat.le_of_ble_eq_true rfl)) dX9_near_39 ⟨Nat.zero_le _, Nat.zero_le _⟩)) (fun r5 hr5 => ?_)
      subst hr5
      rw [hQ]
      exact px_outv (vx_runV (As := [.int (zI (1 + max (sD S i) (sD S j)))]) (rest := []) ⟨hx, hb, hml, hown, hts⟩ (kX9_requireRoom_x l D k L f g S hR hO (1 + max (sD S i) (sD S j)) (by omega) hc hlt n0 _) (cwV 1 hts gX9_near_X9_requireRoom rfl rfl rfl (by decide +kernel) ⟨Nat.le_of_ble_eq_true rfl, Nat.le_of_ble_eq_true rfl⟩) (xc_preV hC hX hP (Nat.le_trans hn9 hS.1) hD hS hAn (pl_recv hK hP (aL 0 (by decide)) a0 (ci := 8) (q := (RX9, TX9, 3)) rfl)) rfl rfl hl.1 rfl (lv_room (Nat.le_of_ble_eq_true rfl)) dX9_near_42 ⟨Nat.le_of_ble_eq_true rfl, Nat.le_of_ble_eq_true rfl⟩) (by rw [← hAd]; exact hD) (by rw [← hAd]; exact hS) hlocks hno (Nat.le_of_ble_eq_true rfl) (Nat.le_of_ble_eq_true rfl) (fun E u h => h)
    · exfalso; omega

set_option maxHeartbeats 4000000 in
set_option maxRecDepth 100000 in
theorem kX9_only (l : Launch) (D : va_G) (k : Nat → ClassId) (L : List Nat) (f : Nat → va_E) (g : CG) (S : SA) (hR : cRep k L f g S) (hO : aOK S) (i : Nat) (hi : i < sC S) (b9 : Bool) (hc : sC S < 30) (hdp : 1 + max (sD S i) (sD S i) ≤ 6) (n0 sz : Nat) : Met l yX9_only wsX9_only ({ frames := 4, cells := 5, slots := 56, locals := 78 } : Room) (va_Pc [.ref (gA g 0), .int (zI ((i : Int))), .int (bI (b9))] (pPre D (tyL k) n0 (va_pl L f) sz)) (va_Qi (fun r9 u => r9 = zI (sC S : Int) ∧ ∃ (L2 : List Nat) (F : Nat → va_E) (g2 : CG), u = va_pl L2 F ∧ gA g2 0 = gA g 0 ∧ cRep k L2 F g2 (addS S (if b9 then 14 else 13) i i 0 (1 + max (sD S i) (sD S i)))) (pB D (va_pl L f) sz) (va_A (va_pl L f) sz)) 5 56 (va_A (va_pl L f) sz) := by
  refine Met.ofW (cc := cX9_only) (maxL := 4) (ret := (some .int)) (by decide) rfl ?_
  intro p e s m args below meth c s₁ B hml hv
  obtain ⟨rfl, hsz, hn9, hP, hC, hD0⟩ := hv
  have hK := hC.1
  have hNW := hC.2.1
  have hx := B.exec
  have hb := B.bytes
  have hrt := B.returns
  have hts := atoms_spec (ws := wsX9_only) B.pre
  have hown : s.vm.findClass RX9 = some m.cls := findClass_of_methodNamed B.named
  have hlocks := B.notSynchronized
  subst hsz
  obtain ⟨A, hAd⟩ : ∃ A, A = va_A (va_pl L f) s.heap.size := ⟨_, rfl⟩
  have hD := hD0.self (sz := s.heap.size)
  rw [← hAd] at hD
  have hA : ∀ q : Nat, s.heap.size ≤ q → A q := fun q h => by rw [hAd]; exact Or.inr h
  have hAn : ∀ q : Nat, A q → n0 ≤ q := fun q h => by
    rw [hAd] at h
    rcases h with ⟨k9, e9, hk9⟩ | h
    · exact hD0.2 k9 _ hk9
    · exact Nat.le_trans hn9 h
  have hS : va_S A s.heap s.heap [] := va_S.rf
  have hi_X4 : ∀ w ∈ u_ws RX4 TX4 6, w ∈ wsX9_only := by decide +kernel
  have hi_X9 : ∀ w ∈ u_ws RX9 TX9 3, w ∈ wsX9_only := by decide +kernel
  have hw_0 := hts (.classLink RX9 128 RX4) (by decide +kernel)
  have hw_1 := hts (.instantiable RX4 6) (by decide +kernel)
  have hw_2 := hts (.initialized RX4) (by decide +kernel)
  have hw_3 := hts (.fieldLink RX9 22 "Regionry" "count" "I") (by decide +kernel)
  have hw_4 := hts (.methodLink RX9 130 yX4_init) (by decide +kernel)
  have hw_5 := hts (.instanceMethod yX4_init) (by decide +kernel)
  have hl := lv_entry ([.ref (gA g 0), .int (zI ((i : Int))), .int (bI (b9))]) (n := 4) (Nat.le_of_ble_eq_true rfl)
  rw [lg_entry_eq]
  generalize (lg_sl ([.ref (gA g 0), .int (zI ((i : Int))), .int (bI (b9))]) ++ List.replicate (4 - (lg_sl ([.ref (gA g 0), .int (zI ((i : Int))), .int (bI (b9))])).length) Slot.unset).toArray = ls at hl ⊢
  have hl : lv_has ls 4 [(0, .ref (gA g 0)), (1, .int (zI ((i : Int)))), (2, .int (bI (b9)))] := hl
  obtain ⟨Q, hQ⟩ : ∃ Q, Q = MQ below (va_Qi (fun r9 u => r9 = zI (sC S : Int) ∧ ∃ (L2 : List Nat) (F : Nat → va_E) (g2 : CG), u = va_pl L2 F ∧ gA g2 0 = gA g 0 ∧ cRep k L2 F g2 (addS S (if b9 then 14 else 13) i i 0 (1 + max (sD S i) (sD S i)))) (pB D (va_pl L f) s.heap.size) (va_A (va_pl L f) s.heap.size)) ([.ref (gA g 0), .int (zI ((i : Int))), .int (bI (b9))] : List Value).toArray s 5 56 (va_A (va_pl L f) s.heap.size) := ⟨_, rfl⟩
  rw [← hQ]
  obtain ⟨⟨a0, a1, a2, a3, a4⟩, aL, ao, aM, aE, aX⟩ := id hR
  have hn0 := hO.1
  have hc0 := hO.2.2.2.1
  have hdi := (hO.2.2.2.2 i hi).2.1
  refine lv_aload_n hx hb dX9_only_0 rfl (lv_at hl 0 rfl) ?_
  refine lv_iload_n hx hb dX9_only_1 rfl (lv_at hl 1 rfl) ?_
  refine va_csr (va_Run.run (va_runV (As := [.int (zI ((i : Int)))]) (rest := []) ⟨hx, hb, hml, hown, hts⟩ (kX9_expressionOf l D k L f g S hR hO i hi) (cwV 1 hts gX9_only_X9_expressionOf rfl rfl rfl (by decide +kernel) ⟨Nat.le_of_ble_eq_true rfl, Nat.le_of_ble_eq_true rfl⟩) (rc_preV hC hP (pl_recv hK hP (aL 0 (by decide)) a0 (ci := 8) (q := (RX9, TX9, 3)) rfl)) rfl rfl hl.1 rfl (lv_room (Nat.le_of_ble_eq_true rfl)) dX9_only_2 ⟨Nat.zero_le _, Nat.zero_le _⟩)) (fun r1 hr1 => ?_)
  subst hr1
  refine lv_astore_n (lv' := [(3, .ref (gN g 0 i)), (0, .ref (gA g 0)), (1, .int (zI ((i : Int)))), (2, .int (bI (b9)))]) hx hb dX9_only_5 rfl hl (by decide) rfl (fun ls hl => ?_)
  refine lv_aload_n hx hb dX9_only_6 rfl (lv_at hl 1 rfl) ?_
  refine lv_aload_n hx hb dX9_only_7 rfl (lv_at hl 0 rfl) ?_
  refine lv_aload_n hx hb dX9_only_8 rfl (lv_at hl 0 rfl) ?_
  refine vp_callSi (va_Run.run (va_runS (As := [.ref (gN g 0 i), .ref (gN g 0 i)]) (rest := [.ref (gA g 0)]) ⟨hx, hb, hml, hown, hts⟩ (kX9_depthAbove l D k L f (gN g 0 i) (sD S i) (gD g i) (gN g 1 i) (gN g 3 i) (by omega) (aE i hi).2.1.1 (hR.ex hi) (gN g 0 i) (sD S i) (gD g i) (gN g 1 i) (gN g 3 i) (by omega) (aE i hi).2.1.1 (hR.ex hi)) (va_cwS 2 hts gX9_only_X9_depthAbove rfl rfl rfl (by decide +kernel) ⟨Nat.le_of_ble_eq_true rfl, Nat.le_of_ble_eq_true rfl⟩) (rc_preS hC hP) rfl rfl hl.1 rfl (lv_room (Nat.le_of_ble_eq_true rfl)) dX9_only_9 ⟨Nat.zero_le _, Nat.zero_le _⟩)) (fun r2 hr2 => ?_)
  subst hr2
  refine pc_callv (va_runV (As := [.int (zI (1 + max (sD S i) (sD S i)))]) (rest := []) ⟨hx, hb, hml, hown, hts⟩ (kX9_requireRoom l D k L f g S hR hO (1 + max (sD S i) (sD S i)) (by omega) hc n0 _) (cwV 1 hts gX9_only_X9_requireRoom rfl rfl rfl (by decide +kernel) ⟨Nat.le_of_ble_eq_true rfl, Nat.le_of_ble_eq_true rfl⟩) (pc_preV hC hP (Nat.le_trans hn9 hS.1) hD hAn (pl_recv hK hP (aL 0 (by decide)) a0 (ci := 8) (q := (RX9, TX9, 3)) rfl)) rfl rfl hl.1 rfl (lv_room (Nat.le_of_ble_eq_true rfl)) dX9_only_12 ⟨Nat.zero_le _, Nat.zero_le _⟩) hD hS hA (fun ur3 H locs hr3 hP hD hS hzr3 => ?_)
  subst hr3
  refine lv_aload_n hx hb dX9_only_15 rfl (lv_at hl 1 rfl) ?_
  refine pl_obj (ci := 3) (fs := [.int (0), .int (0), .null, .null, .null, .int (0)]) (C := RX4) (T := TX4) (N := 6) hx hb hts hi_X4 tyX4 tyX4_ok hown hw_0 hw_1 hw_2 hK hP hD hS hA rfl (fun j hj => by rcases (show j = 0 ∨ j = 1 ∨ j = 2 ∨ j = 3 ∨ j = 4 ∨ j = 5 by omega) with rfl | rfl | rfl | rfl | rfl | rfl <;> rfl) (Nat.le_of_ble_eq_true rfl) (Nat.le_of_ble_eq_true rfl) dX9_only_16 (fun q4 H hq4 hP hD hS => ?_)
  have hP : va_P D vwCl (va_pl (L ++ [q4]) (va_up f q4 (.inr (3, [.int (0), .int (0), .null, .null, .null, .int (0)])))) H := hP
  have hD : va_D A (va_pl (L ++ [q4]) (va_up f q4 (.inr (3, [.int (0), .int (0), .null, .null, .null, .int (0)])))) := hD
  refine lv_dup hx hb dX9_only_19 rfl ?_
  refine lv_aload_n hx hb dX9_only_20 rfl (lv_at hl 1 rfl) ?_
  refine pl_get (ci := 8) (v := .int (zI ((sC S : Int)))) (C := RX9) (T := TX9) (N := 3) hx hb hts hi_X9 hown hK hP (List.mem_append_left _ (aL 0 (by decide))) ((va_up_ne _ _ (ne_new (aL 0 (by decide)) hq4)).trans a0) rfl 2 (by decide) hw_3 (fun _ h9 => h9) rfl dX9_only_21 ?_
  refine lv_aload_n hx hb dX9_only_24 rfl (lv_at hl 0 rfl) ?_
  refine lv_iload_n hx hb dX9_only_25 rfl (lv_at hl 3 rfl) ?_
  refine pc_callv (va_runI (As := [.int (zI ((sC S : Int))), .ref (gN g 0 i), .int (bI (b9))]) (rest := [.ref q4, .ref (gA g 0)]) ⟨hx, hb, hml, hown, hts⟩ (kX4_init l D k (L ++ [q4]) (va_up f q4 (.inr (3, [.int (0), .int (0), .null, .null, .null, .int (0)]))) q4 (List.mem_append_right _ (List.mem_singleton.mpr rfl)) (va_up_self _ _ _) ((sC S : Int)) (by omega) (gN g 0 i) (sD S i) (gD g i) (gN g 1 i) (gN g 3 i) (by omega) (List.mem_append_left _ (aE i hi).2.1.1) (exAt.up (ne_new (aE i hi).2.1.1 hq4) (hR.ex hi)) (ne_new (aE i hi).2.1.1 hq4) b9 n0 _) (cwI 3 hts gX9_only_X4_init rfl rfl rfl hw_2 hw_4 hw_5 rfl (by decide +kernel) ⟨Nat.le_of_ble_eq_true rfl, Nat.le_of_ble_eq_true rfl⟩) (pc_preS hC hP (Nat.le_trans hn9 hS.1) hD hAn) rfl rfl hl.1 rfl (lv_room (Nat.le_of_ble_eq_true rfl)) dX9_only_26 ⟨Nat.le_of_ble_eq_true rfl, Nat.le_of_ble_eq_true rfl⟩) hD hS hA (fun ur5 H locs hr5 hP hD hS hzr5 => ?_)
  obtain ⟨qar5, hqar5, rar5, hrar5, qbr5, hqbr5, rbr5, hrbr5, Fr5, rfl, hFhr5, hFar5, hFbr5, hFcr5, hFdr5, hFor5⟩ := hr5
  refine pc_calli (va_runV (As := [.ref q4]) (rest := []) ⟨hx, hb, hml, hown, hts⟩ (kX9_keep l D k (L ++ [q4] ++ [qar5] ++ [rar5] ++ [qbr5] ++ [rbr5]) Fr5 (gA g 0) (gA g 1) (gA g 4) q4 (sC S) qar5 qbr5 ((gE g)) (zI (1 + max (sD S i) (sD S i))) ((gD g i) ||| pw ((sC S : Int)).toNat) (List.mem_append_left _ (List.mem_append_left _ (List.mem_append_left _ (List.mem_append_left _ (List.mem_append_left _ (aL 0 (by decide))))))) ((hFor5 _ (List.mem_append_left _ (aL 0 (by decide))) (ne_new (aL 0 (by decide)) hq4)).trans ((va_up_ne _ _ (ne_new (aL 0 (by decide)) hq4)).trans a0)) (List.mem_append_left _ (List.mem_append_left _ (List.mem_append_left _ (List.mem_append_left _ (List.mem_append_left _ (aL 4 (by decide))))))) ((hFor5 _ (List.mem_append_left _ (aL 4 (by decide))) (ne_new (aL 4 (by decide)) hq4)).trans ((va_up_ne _ _ (ne_new (aL 4 (by decide)) hq4)).trans a4)) hc (List.mem_append_left _ (List.mem_append_left _ (List.mem_append_left _ (List.mem_append_left _ (List.mem_append_right _ (List.mem_singleton.mpr rfl)))))) ⟨3, [.ref (gN g 0 i), .int (bI (b9))], by unfold exC; omega, hFhr5⟩ n0 _) (cwV 1 hts gX9_only_X9_keep rfl rfl rfl (by decide +kernel) ⟨Nat.le_of_ble_eq_true rfl, Nat.le_of_ble_eq_true rfl⟩) (pc_preV hC hP (Nat.le_trans hn9 hS.1) hD hAn (pl_recv hK hP (List.mem_append_left _ (List.mem_append_left _ (List.mem_append_left _ (List.mem_append_left _ (List.mem_append_left _ (aL 0 (by decide))))))) ((hFor5 _ (List.mem_append_left _ (aL 0 (by decide))) (ne_new (aL 0 (by decide)) hq4)).trans ((va_up_ne _ _ (ne_new (aL 0 (by decide)) hq4)).trans a0)) (ci := 8) (q := (RX9, TX9, 3)) rfl)) rfl rfl hl.1 rfl (lv_room (Nat.le_of_ble_eq_true rfl)) dX9_only_29 ⟨Nat.le_of_ble_eq_true rfl, Nat.le_of_ble_eq_true rfl⟩) hD hS hA (fun r6 ur6 H locs hr6 hP hD hS hzr6 => ?_)
  obtain ⟨rfl, rfl⟩ := hr6
  rw [hQ]
  exact pc_iret hx hb hrt hP (by rw [← hAd]; exact hD) (by rw [← hAd]; exact hS) (by refine ⟨rfl, ?_⟩; exact addP hR hO hc hrar5 hrbr5 (by cases b9 <;> decide) (by rw [exK_3]; exact hFhr5) (nodeV_13 hi b9) hFar5 hFbr5 hFcr5 hFdr5 (fun a9 ha9 => ((hFor5 _ (List.mem_append_left _ ha9) (ne_new ha9 hq4)).trans (va_up_ne _ _ (ne_new ha9 hq4)))) (needP hc hi hi (aE i hi).2.2.2.2.2 (aE i hi).2.2.2.2.2 (bt_new1 hc))) dX9_only_32 hlocks

set_option maxHeartbeats 4000000 in
set_option maxRecDepth 100000 in
theorem kX9_only_x (l : Launch) (D : va_G) (k : Nat → ClassId) (L : List Nat) (f : Nat → va_E) (g : CG) (S : SA) (hR : cRep k L f g S) (hO : aOK S) (z : Int) (hz : -2147483648 ≤ z ∧ z < 2147483648) (hz2 : ¬ (0 ≤ z ∧ z < (sC S : Int))) (b9 : Bool) (hlt : l.stackTraces = false) (n0 sz : Nat) : vx_Met l yX9_only wsX9_only ({ frames := 7, cells := 1, slots := 6, locals := 103 } : Room) (va_Pc [.ref (gA g 0), .int (zI (z)), .int (bI (b9))] (xPre D (tyL k) n0 (va_pl L f) sz)) (va_Qv (fun _ => False) (pB D (va_pl L f) sz) (va_A (va_pl L f) sz)) (xX D (va_pl L f) sz (fun E u => E = "java/lang/IndexOutOfBoundsException" ∧ u = va_pl L f)) 1 6 (va_A (va_pl L f) sz) := by
  refine vx_ofW (cc := cX9_only) (maxL := 4) (ret := (some .int)) (by decide) rfl ?_
  intro p e s m args below meth c s₁ B hml hno hv
  obtain ⟨rfl, ⟨hsz, hn9, hP, hC, hD0⟩, hX⟩ := hv
  have hK := hC.1
  have hNW := hC.2.1
  have hx := B.exec
  have hb := B.bytes
  have hrt := B.returns
  have hts := atoms_spec (ws := wsX9_only) B.pre
  have hown : s.vm.findClass RX9 = some m.cls := findClass_of_methodNamed B.named
  have hlocks := B.notSynchronized
  subst hsz
  obtain ⟨A, hAd⟩ : ∃ A, A = va_A (va_pl L f) s.heap.size := ⟨_, rfl⟩
  have hD := hD0.self (sz := s.heap.size)
  rw [← hAd] at hD
  have hA : ∀ q : Nat, s.heap.size ≤ q → A q := fun q h => by rw [hAd]; exact Or.inr h
  have hAn : ∀ q : Nat, A q → n0 ≤ q := fun q h => by
    rw [hAd] at h
    rcases h with ⟨k9, e9, hk9⟩ | h
    · exact hD0.2 k9 _ hk9
    · exact Nat.le_trans hn9 h
  have hS : va_S A s.heap s.heap [] := va_S.rf
  have hl := lv_entry ([.ref (gA g 0), .int (zI (z)), .int (bI (b9))]) (n := 4) (Nat.le_of_ble_eq_true rfl)
  rw [lg_entry_eq]
  generalize (lg_sl ([.ref (gA g 0), .int (zI (z)), .int (bI (b9))]) ++ List.replicate (4 - (lg_sl ([.ref (gA g 0), .int (zI (z)), .int (bI (b9))])).length) Slot.unset).toArray = ls at hl ⊢
  have hl : lv_has ls 4 [(0, .ref (gA g 0)), (1, .int (zI (z))), (2, .int (bI (b9)))] := hl
  obtain ⟨Q, hQ⟩ : ∃ Q, Q = vx_MQ below (va_Qv (fun _ => False) (pB D (va_pl L f) s.heap.size) (va_A (va_pl L f) s.heap.size)) (xX D (va_pl L f) s.heap.size (fun E u => E = "java/lang/IndexOutOfBoundsException" ∧ u = va_pl L f)) ([.ref (gA g 0), .int (zI (z)), .int (bI (b9))] : List Value).toArray s 1 6 (va_A (va_pl L f) s.heap.size) := ⟨_, rfl⟩
  rw [← hQ]
  obtain ⟨⟨a0, a1, a2, a3, a4⟩, aL, ao, aM, aE, aX⟩ := id hR
  have hn0 := hO.1
  have hc0 := hO.2.2.2.1
  refine lv_aload_n hx hb dX9_only_0 rfl (lv_at hl 0 rfl) ?_
  refine lv_iload_n hx hb dX9_only_1 rfl (lv_at hl 1 rfl) ?_
  rw [hQ]
  exact px_outv (vx_runV (As := [.int (zI (z))]) (rest := []) ⟨hx, hb, hml, hown, hts⟩ (kX9_expressionOf_x l D k L f g S hR hO z hz hz2 hlt n0 _) (cwV 1 hts gX9_only_X9_expressionOf rfl rfl rfl (by decide +kernel) ⟨Nat.le_of_ble_eq_true rfl, Nat.le_of_ble_eq_true rfl⟩) (xc_preV hC hX hP (Nat.le_trans hn9 hS.1) hD hS hAn (pl_recv hK hP (aL 0 (by decide)) a0 (ci := 8) (q := (RX9, TX9, 3)) rfl)) rfl rfl hl.1 rfl (lv_room (Nat.le_of_ble_eq_true rfl)) dX9_only_2 ⟨Nat.le_of_ble_eq_true rfl, Nat.le_of_ble_eq_true rfl⟩) (by rw [← hAd]; exact hD) (by rw [← hAd]; exact hS) hlocks hno (Nat.le_of_ble_eq_true rfl) (Nat.le_of_ble_eq_true rfl) (fun E u h => h)

set_option maxHeartbeats 4000000 in
set_option maxRecDepth 100000 in
theorem kX9_only_x2 (l : Launch) (D : va_G) (k : Nat → ClassId) (L : List Nat) (f : Nat → va_E) (g : CG) (S : SA) (hR : cRep k L f g S) (hO : aOK S) (i : Nat) (hi : i < sC S) (b9 : Bool) (hc : 30 ≤ sC S ∨ 6 < (1 + max (sD S i) (sD S i))) (hlt : l.stackTraces = false) (n0 sz : Nat) : vx_Met l yX9_only wsX9_only ({ frames := 7, cells := 1, slots := 6, locals := 103 } : Room) (va_Pc [.ref (gA g 0), .int (zI ((i : Int))), .int (bI (b9))] (xPre D (tyL k) n0 (va_pl L f) sz)) (va_Qv (fun _ => False) (pB D (va_pl L f) sz) (va_A (va_pl L f) sz)) (xX D (va_pl L f) sz (fun E u => E = "java/lang/IllegalStateException" ∧ u = va_pl L f)) 1 6 (va_A (va_pl L f) sz) := by
  refine vx_ofW (cc := cX9_only) (maxL := 4) (ret := (some .int)) (by decide) rfl ?_
  intro p e s m args below meth c s₁ B hml hno hv
  obtain ⟨rfl, ⟨hsz, hn9, hP, hC, hD0⟩, hX⟩ := hv
  have hK := hC.1
  have hNW := hC.2.1
  have hx := B.exec
  have hb := B.bytes
  have hrt := B.returns
  have hts := atoms_spec (ws := wsX9_only) B.pre
  have hown : s.vm.findClass RX9 = some m.cls := findClass_of_methodNamed B.named
  have hlocks := B.notSynchronized
  subst hsz
  obtain ⟨A, hAd⟩ : ∃ A, A = va_A (va_pl L f) s.heap.size := ⟨_, rfl⟩
  have hD := hD0.self (sz := s.heap.size)
  rw [← hAd] at hD
  have hA : ∀ q : Nat, s.heap.size ≤ q → A q := fun q h => by rw [hAd]; exact Or.inr h
  have hAn : ∀ q : Nat, A q → n0 ≤ q := fun q h => by
    rw [hAd] at h
    rcases h with ⟨k9, e9, hk9⟩ | h
    · exact hD0.2 k9 _ hk9
    · exact Nat.le_trans hn9 h
  have hS : va_S A s.heap s.heap [] := va_S.rf
  have hl := lv_entry ([.ref (gA g 0), .int (zI ((i : Int))), .int (bI (b9))]) (n := 4) (Nat.le_of_ble_eq_true rfl)
  rw [lg_entry_eq]
  generalize (lg_sl ([.ref (gA g 0), .int (zI ((i : Int))), .int (bI (b9))]) ++ List.replicate (4 - (lg_sl ([.ref (gA g 0), .int (zI ((i : Int))), .int (bI (b9))])).length) Slot.unset).toArray = ls at hl ⊢
  have hl : lv_has ls 4 [(0, .ref (gA g 0)), (1, .int (zI ((i : Int)))), (2, .int (bI (b9)))] := hl
  obtain ⟨Q, hQ⟩ : ∃ Q, Q = vx_MQ below (va_Qv (fun _ => False) (pB D (va_pl L f) s.heap.size) (va_A (va_pl L f) s.heap.size)) (xX D (va_pl L f) s.heap.size (fun E u => E = "java/lang/IllegalStateException" ∧ u = va_pl L f)) ([.ref (gA g 0), .int (zI ((i : Int))), .int (bI (b9))] : List Value).toArray s 1 6 (va_A (va_pl L f) s.heap.size) := ⟨_, rfl⟩
  rw [← hQ]
  obtain ⟨⟨a0, a1, a2, a3, a4⟩, aL, ao, aM, aE, aX⟩ := id hR
  have hn0 := hO.1
  have hc0 := hO.2.2.2.1
  have hdi := (hO.2.2.2.2 i hi).2.1
  refine lv_aload_n hx hb dX9_only_0 rfl (lv_at hl 0 rfl) ?_
  refine lv_iload_n hx hb dX9_only_1 rfl (lv_at hl 1 rfl) ?_
  refine va_csr (va_Run.run (va_runV (As := [.int (zI ((i : Int)))]) (rest := []) ⟨hx, hb, hml, hown, hts⟩ (kX9_expressionOf l D k L f g S hR hO i hi) (cwV 1 hts gX9_only_X9_expressionOf rfl rfl rfl (by decide +kernel) ⟨Nat.le_of_ble_eq_true rfl, Nat.le_of_ble_eq_true rfl⟩) (rc_preV hC hP (pl_recv hK hP (aL 0 (by decide)) a0 (ci := 8) (q := (RX9, TX9, 3)) rfl)) rfl rfl hl.1 rfl (lv_room (Nat.le_of_ble_eq_true rfl)) dX9_only_2 ⟨Nat.zero_le _, Nat.zero_le _⟩)) (fun r1 hr1 => ?_)
  subst hr1
  refine lv_astore_n (lv' := [(3, .ref (gN g 0 i)), (0, .ref (gA g 0)), (1, .int (zI ((i : Int)))), (2, .int (bI (b9)))]) hx hb dX9_only_5 rfl hl (by decide) rfl (fun ls hl => ?_)
  refine lv_aload_n hx hb dX9_only_6 rfl (lv_at hl 1 rfl) ?_
  refine lv_aload_n hx hb dX9_only_7 rfl (lv_at hl 0 rfl) ?_
  refine lv_aload_n hx hb dX9_only_8 rfl (lv_at hl 0 rfl) ?_
  refine vp_callSi (va_Run.run (va_runS (As := [.ref (gN g 0 i), .ref (gN g 0 i)]) (rest := [.ref (gA g 0)]) ⟨hx, hb, hml, hown, hts⟩ (kX9_depthAbove l D k L f (gN g 0 i) (sD S i) (gD g i) (gN g 1 i) (gN g 3 i) (by omega) (aE i hi).2.1.1 (hR.ex hi) (gN g 0 i) (sD S i) (gD g i) (gN g 1 i) (gN g 3 i) (by omega) (aE i hi).2.1.1 (hR.ex hi)) (va_cwS 2 hts gX9_only_X9_depthAbove rfl rfl rfl (by decide +kernel) ⟨Nat.le_of_ble_eq_true rfl, Nat.le_of_ble_eq_true rfl⟩) (rc_preS hC hP) rfl rfl hl.1 rfl (lv_room (Nat.le_of_ble_eq_true rfl)) dX9_only_9 ⟨Nat.zero_le _, Nat.zero_le _⟩)) (fun r2 hr2 => ?_)
  subst hr2
  rw [hQ]
  exact px_outv (vx_runV (As := [.int (zI (1 + max (sD S i) (sD S i)))]) (rest := []) ⟨hx, hb, hml, hown, hts⟩ (kX9_requireRoom_x l D k L f g S hR hO (1 + max (sD S i) (sD S i)) (by omega) hc hlt n0 _) (cwV 1 hts gX9_only_X9_requireRoom rfl rfl rfl (by decide +kernel) ⟨Nat.le_of_ble_eq_true rfl, Nat.le_of_ble_eq_true rfl⟩) (xc_preV hC hX hP (Nat.le_trans hn9 hS.1) hD hS hAn (pl_recv hK hP (aL 0 (by decide)) a0 (ci := 8) (q := (RX9, TX9, 3)) rfl)) rfl rfl hl.1 rfl (lv_room (Nat.le_of_ble_eq_true rfl)) dX9_only_12 ⟨Nat.le_of_ble_eq_true rfl, Nat.le_of_ble_eq_true rfl⟩) (by rw [← hAd]; exact hD) (by rw [← hAd]; exact hS) hlocks hno (Nat.le_of_ble_eq_true rfl) (Nat.le_of_ble_eq_true rfl) (fun E u h => h)
