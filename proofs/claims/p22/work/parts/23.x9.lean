set_option maxHeartbeats 4000000 in
set_option maxRecDepth 100000 in
theorem kX9_length (l : Launch) (D : va_G) (k : Nat → ClassId) (L : List Nat) (f : Nat → va_E) (g : CG) (S : SA) (hR : cRep k L f g S) (hO : aOK S)  : Met l yX9_length wsX9_length ({ frames := 0, cells := 0, slots := 0, locals := 0 } : Room) (va_Pc [.ref (gA g 0)] (rPre D (tyL k) (va_pl L f))) (vp_Si (fun r9 => r9 = zI (sN S))) 0 0 (fun _ => False) := by
  refine Met.ofW (cc := cX9_length) (maxL := 1) (ret := (some .int)) (by decide) rfl ?_
  intro p e s m args below meth c s₁ B hml hv
  obtain ⟨rfl, hP, hC⟩ := hv
  have hK := hC.1
  have hNW := hC.2.1
  have hx := B.exec
  have hb := B.bytes
  have hrt := B.returns
  have hts := atoms_spec (ws := wsX9_length) B.pre
  have hown : s.vm.findClass RX9 = some m.cls := findClass_of_methodNamed B.named
  have hlocks := B.notSynchronized
  have hi_X9 : ∀ w ∈ u_ws RX9 TX9 3, w ∈ wsX9_length := by decide +kernel
  have hi_X8 : ∀ w ∈ u_ws RX8 TX8 3, w ∈ wsX9_length := by decide +kernel
  have hw_0 := hts (.fieldLink RX9 12 "Regionry" "text" "LRegionry$Text;") (by decide +kernel)
  have hl := lv_entry ([.ref (gA g 0)]) (n := 1) (Nat.le_of_ble_eq_true rfl)
  rw [lg_entry_eq]
  generalize (lg_sl ([.ref (gA g 0)]) ++ List.replicate (1 - (lg_sl ([.ref (gA g 0)])).length) Slot.unset).toArray = ls at hl ⊢
  have hl : lv_has ls 1 [(0, .ref (gA g 0))] := hl
  obtain ⟨Q, hQ⟩ : ∃ Q, Q = MQ below (vp_Si (fun r9 => r9 = zI (sN S))) ([.ref (gA g 0)] : List Value).toArray s 0 0 (fun _ => False) := ⟨_, rfl⟩
  rw [← hQ]
  obtain ⟨⟨a0, a1, a2, a3, a4⟩, aL, ao, aM, aE, aX⟩ := id hR
  have hn0 := hO.1
  have hc0 := hO.2.2.2.1
  refine lv_aload_n hx hb dX9_length_0 rfl (lv_at hl 0 rfl) ?_
  refine pl_get (ci := 8) (v := .ref (gA g 1)) (C := RX9) (T := TX9) (N := 3) hx hb hts hi_X9 hown hK hP (aL 0 (by decide)) a0 rfl 0 (by decide) hw_0 (fun _ h9 => h9) rfl dX9_length_1 ?_
  refine pl_getN (host := "Regionry") (ci := 7) (v := .int (zI ((sN S)))) (C := RX8) (T := TX8) (N := 3) hx hb hts hi_X8 hown hK hP (aL 1 (by decide)) a1 rfl 2 (by decide) (va_Nw.use rfl (hNW (.fieldLinkNest RX9 34 "Regionry$Text" "size" "I" "Regionry") (by decide +kernel))) (fun _ h9 => h9) rfl dX9_length_4 ?_
  rw [hQ]
  exact rc_iret hx hb hrt (rfl) dX9_length_7 hlocks

set_option maxHeartbeats 4000000 in
set_option maxRecDepth 100000 in
theorem kX9_nodes (l : Launch) (D : va_G) (k : Nat → ClassId) (L : List Nat) (f : Nat → va_E) (g : CG) (S : SA) (hR : cRep k L f g S) (hO : aOK S)  : Met l yX9_nodes wsX9_nodes ({ frames := 0, cells := 0, slots := 0, locals := 0 } : Room) (va_Pc [.ref (gA g 0)] (rPre D (tyL k) (va_pl L f))) (vp_Si (fun r9 => r9 = zI (sC S : Int))) 0 0 (fun _ => False) := by
  refine Met.ofW (cc := cX9_nodes) (maxL := 1) (ret := (some .int)) (by decide) rfl ?_
  intro p e s m args below meth c s₁ B hml hv
  obtain ⟨rfl, hP, hC⟩ := hv
  have hK := hC.1
  have hNW := hC.2.1
  have hx := B.exec
  have hb := B.bytes
  have hrt := B.returns
  have hts := atoms_spec (ws := wsX9_nodes) B.pre
  have hown : s.vm.findClass RX9 = some m.cls := findClass_of_methodNamed B.named
  have hlocks := B.notSynchronized
  have hi_X9 : ∀ w ∈ u_ws RX9 TX9 3, w ∈ wsX9_nodes := by decide +kernel
  have hw_0 := hts (.fieldLink RX9 22 "Regionry" "count" "I") (by decide +kernel)
  have hl := lv_entry ([.ref (gA g 0)]) (n := 1) (Nat.le_of_ble_eq_true rfl)
  rw [lg_entry_eq]
  generalize (lg_sl ([.ref (gA g 0)]) ++ List.replicate (1 - (lg_sl ([.ref (gA g 0)])).length) Slot.unset).toArray = ls at hl ⊢
  have hl : lv_has ls 1 [(0, .ref (gA g 0))] := hl
  obtain ⟨Q, hQ⟩ : ∃ Q, Q = MQ below (vp_Si (fun r9 => r9 = zI (sC S : Int))) ([.ref (gA g 0)] : List Value).toArray s 0 0 (fun _ => False) := ⟨_, rfl⟩
  rw [← hQ]
  obtain ⟨⟨a0, a1, a2, a3, a4⟩, aL, ao, aM, aE, aX⟩ := id hR
  have hn0 := hO.1
  have hc0 := hO.2.2.2.1
  refine lv_aload_n hx hb dX9_nodes_0 rfl (lv_at hl 0 rfl) ?_
  refine pl_get (ci := 8) (v := .int (zI ((sC S : Int)))) (C := RX9) (T := TX9) (N := 3) hx hb hts hi_X9 hown hK hP (aL 0 (by decide)) a0 rfl 2 (by decide) hw_0 (fun _ h9 => h9) rfl dX9_nodes_1 ?_
  rw [hQ]
  exact rc_iret hx hb hrt (rfl) dX9_nodes_4 hlocks

set_option maxHeartbeats 4000000 in
set_option maxRecDepth 100000 in
theorem kX9_letterAt (l : Launch) (D : va_G) (k : Nat → ClassId) (L : List Nat) (f : Nat → va_E) (g : CG) (S : SA) (hR : cRep k L f g S) (hO : aOK S) (z : Int) (hz : 0 ≤ z ∧ z < sN S) : Met l yX9_letterAt wsX9_letterAt ({ frames := 2, cells := 0, slots := 0, locals := 42 } : Room) (va_Pc [.ref (gA g 0), .int (zI (z))] (rPre D (tyL k) (va_pl L f))) (vp_Si (fun r9 => r9 = sT S z.toNat)) 0 0 (fun _ => False) := by
  refine Met.ofW (cc := cX9_letterAt) (maxL := 2) (ret := (some .int)) (by decide) rfl ?_
  intro p e s m args below meth c s₁ B hml hv
  obtain ⟨rfl, hP, hC⟩ := hv
  have hK := hC.1
  have hNW := hC.2.1
  have hx := B.exec
  have hb := B.bytes
  have hrt := B.returns
  have hts := atoms_spec (ws := wsX9_letterAt) B.pre
  have hown : s.vm.findClass RX9 = some m.cls := findClass_of_methodNamed B.named
  have hlocks := B.notSynchronized
  have hi_X9 : ∀ w ∈ u_ws RX9 TX9 3, w ∈ wsX9_letterAt := by decide +kernel
  have hw_0 := hts (.fieldLink RX9 12 "Regionry" "text" "LRegionry$Text;") (by decide +kernel)
  have hl := lv_entry ([.ref (gA g 0), .int (zI (z))]) (n := 2) (Nat.le_of_ble_eq_true rfl)
  rw [lg_entry_eq]
  generalize (lg_sl ([.ref (gA g 0), .int (zI (z))]) ++ List.replicate (2 - (lg_sl ([.ref (gA g 0), .int (zI (z))])).length) Slot.unset).toArray = ls at hl ⊢
  have hl : lv_has ls 2 [(0, .ref (gA g 0)), (1, .int (zI (z)))] := hl
  obtain ⟨Q, hQ⟩ : ∃ Q, Q = MQ below (vp_Si (fun r9 => r9 = sT S z.toNat)) ([.ref (gA g 0), .int (zI (z))] : List Value).toArray s 0 0 (fun _ => False) := ⟨_, rfl⟩
  rw [← hQ]
  obtain ⟨⟨a0, a1, a2, a3, a4⟩, aL, ao, aM, aE, aX⟩ := id hR
  have hn0 := hO.1
  have hc0 := hO.2.2.2.1
  refine lv_aload_n hx hb dX9_letterAt_0 rfl (lv_at hl 0 rfl) ?_
  refine pl_get (ci := 8) (v := .ref (gA g 1)) (C := RX9) (T := TX9) (N := 3) hx hb hts hi_X9 hown hK hP (aL 0 (by decide)) a0 rfl 0 (by decide) hw_0 (fun _ h9 => h9) rfl dX9_letterAt_1 ?_
  refine lv_iload_n hx hb dX9_letterAt_4 rfl (lv_at hl 1 rfl) ?_
  refine vp_callSi (va_Run.run (va_runV (As := [.int (zI (z))]) (rest := []) ⟨hx, hb, hml, hown, hts⟩ (kX8_letterOf l D k L f (gA g 1) (gA g 2) (gA g 3) ((sN S)) ((sT S)) (aL 1 (by decide)) a1 (aL 2 (by decide)) a2 (by omega) (z) (by omega)) (cwV 1 hts gX9_letterAt_X8_letterOf rfl rfl rfl (by decide +kernel) ⟨Nat.le_of_ble_eq_true rfl, Nat.le_of_ble_eq_true rfl⟩) (rc_preV hC hP (pl_recv hK hP (aL 1 (by decide)) a1 (ci := 7) (q := (RX8, TX8, 3)) rfl)) rfl rfl hl.1 rfl (lv_room (Nat.le_of_ble_eq_true rfl)) dX9_letterAt_5 ⟨Nat.zero_le _, Nat.zero_le _⟩)) (fun r1 hr1 => ?_)
  subst hr1
  rw [hQ]
  exact rc_iret hx hb hrt (rfl) dX9_letterAt_8 hlocks

set_option maxHeartbeats 4000000 in
set_option maxRecDepth 100000 in
theorem kX9_letterAt_x (l : Launch) (D : va_G) (k : Nat → ClassId) (L : List Nat) (f : Nat → va_E) (g : CG) (S : SA) (hR : cRep k L f g S) (hO : aOK S) (z : Int) (hz : -2147483648 ≤ z ∧ z < 2147483648) (hz2 : ¬ (0 ≤ z ∧ z < sN S)) (hlt : l.stackTraces = false) (n0 sz : Nat) : vx_Met l yX9_letterAt wsX9_letterAt ({ frames := 7, cells := 1, slots := 6, locals := 103 } : Room) (va_Pc [.ref (gA g 0), .int (zI (z))] (xPre D (tyL k) n0 (va_pl L f) sz)) (va_Qv (fun _ => False) (pB D (va_pl L f) sz) (va_A (va_pl L f) sz)) (xX D (va_pl L f) sz (fun E u => E = "java/lang/IndexOutOfBoundsException" ∧ u = va_pl L f)) 1 6 (va_A (va_pl L f) sz) := by
  refine vx_ofW (cc := cX9_letterAt) (maxL := 2) (ret := (some .int)) (by decide) rfl ?_
  intro p e s m args below meth c s₁ B hml hno hv
  obtain ⟨rfl, ⟨hsz, hn9, hP, hC, hD0⟩, hX⟩ := hv
  have hK := hC.1
  have hNW := hC.2.1
  have hx := B.exec
  have hb := B.bytes
  have hrt := B.returns
  have hts := atoms_spec (ws := wsX9_letterAt) B.pre
  have hown : s.vm.findClass RX9 = some m.cls := findClass_of_methodNamed B.named
  have hlocks := B.notSynchronized
  subst hsz
  obtain ⟨A, hAd⟩ : ∃ A, A = va_A (va_pl L f) s.heap.size := ⟨_, rfl⟩
  have hD := hD0.self (sz := s.heap.size)
  rw [← hAd] at hD
  have hA : ∀ q : Nat, s.heap.size ≤ q → A q := fun q h => by rw [hAd]; exact Or.inr h
  have hAn : ∀ q : Nat, A q → n0 ≤ q := fun q h => by
    rw [hAd] at h
    rcases h with ⟨k9, e9, hk9⟩ | h
    · exact hD0.2 k9 _ hk9
    · exact Nat.le_trans hn9 h
  have hS : va_S A s.heap s.heap [] := va_S.rf
  have hi_X9 : ∀ w ∈ u_ws RX9 TX9 3, w ∈ wsX9_letterAt := by decide +kernel
  have hw_0 := hts (.fieldLink RX9 12 "Regionry" "text" "LRegionry$Text;") (by decide +kernel)
  have hl := lv_entry ([.ref (gA g 0), .int (zI (z))]) (n := 2) (Nat.le_of_ble_eq_true rfl)
  rw [lg_entry_eq]
  generalize (lg_sl ([.ref (gA g 0), .int (zI (z))]) ++ List.replicate (2 - (lg_sl ([.ref (gA g 0), .int (zI (z))])).length) Slot.unset).toArray = ls at hl ⊢
  have hl : lv_has ls 2 [(0, .ref (gA g 0)), (1, .int (zI (z)))] := hl
  obtain ⟨Q, hQ⟩ : ∃ Q, Q = vx_MQ below (va_Qv (fun _ => False) (pB D (va_pl L f) s.heap.size) (va_A (va_pl L f) s.heap.size)) (xX D (va_pl L f) s.heap.size (fun E u => E = "java/lang/IndexOutOfBoundsException" ∧ u = va_pl L f)) ([.ref (gA g 0), .int (zI (z))] : List Value).toArray s 1 6 (va_A (va_pl L f) s.heap.size) := ⟨_, rfl⟩
  rw [← hQ]
  obtain ⟨⟨a0, a1, a2, a3, a4⟩, aL, ao, aM, aE, aX⟩ := id hR
  have hn0 := hO.1
  have hc0 := hO.2.2.2.1
  refine lv_aload_n hx hb dX9_letterAt_0 rfl (lv_at hl 0 rfl) ?_
  refine pl_get (ci := 8) (v := .ref (gA g 1)) (C := RX9) (T := TX9) (N := 3) hx hb hts hi_X9 hown hK hP (aL 0 (by decide)) a0 rfl 0 (by decide) hw_0 (fun _ h9 => h9) rfl dX9_letterAt_1 ?_
  refine lv_iload_n hx hb dX9_letterAt_4 rfl (lv_at hl 1 rfl) ?_
  rw [hQ]
  exact px_outv (vx_runV (As := [.int (zI (z))]) (rest := []) ⟨hx, hb, hml, hown, hts⟩ (kX8_letterOf_x l D k L f (gA g 1) (gA g 2) (gA g 3) (sN S) (sT S) (aL 1 (by decide)) a1 (aL 2 (by decide)) a2 hn0 z hz hz2 hlt n0 _) (cwV 1 hts gX9_letterAt_X8_letterOf rfl rfl rfl (by decide +kernel) ⟨Nat.le_of_ble_eq_true rfl, Nat.le_of_ble_eq_true rfl⟩) (xc_preV hC hX hP (Nat.le_trans hn9 hS.1) hD hS hAn (pl_recv hK hP (aL 1 (by decide)) a1 (ci := 7) (q := (RX8, TX8, 3)) rfl)) rfl rfl hl.1 rfl (lv_room (Nat.le_of_ble_eq_true rfl)) dX9_letterAt_5 ⟨Nat.le_of_ble_eq_true rfl, Nat.le_of_ble_eq_true rfl⟩) (by rw [← hAd]; exact hD) (by rw [← hAd]; exact hS) hlocks hno (Nat.le_of_ble_eq_true rfl) (Nat.le_of_ble_eq_true rfl) (fun E u h => h)

set_option maxHeartbeats 4000000 in
set_option maxRecDepth 100000 in
theorem kX9_insert (l : Launch) (D : va_G) (k : Nat → ClassId) (L : List Nat) (f : Nat → va_E) (g : CG) (S : SA) (hR : cRep k L f g S) (hO : aOK S) (z y : Int) (hz : 0 ≤ z ∧ z ≤ sN S) (hy : 0 ≤ y ∧ y < 6) (hn2 : sN S < 24) (n0 sz : Nat) : Met l yX9_insert wsX9_insert ({ frames := 5, cells := 0, slots := 0, locals := 106 } : Room) (va_Pc [.ref (gA g 0), .int (zI (z)), .int (zI (y))] (pPre D (tyL k) n0 (va_pl L f) sz)) (va_Qi (fun r9 u => r9 = zI (sN S + 1) ∧ ∃ (G : Nat → Nat → Int32) (F : Nat → va_E), (∀ i, i < 4 → ∀ j : Nat, j < 24 → G i j = op2 (sR S i) z 24 j) ∧ u = va_pl L F ∧ cRep k L F g (insS S z y G)) (pB D (va_pl L f) sz) (va_A (va_pl L f) sz)) 0 0 (va_A (va_pl L f) sz) := by
  refine Met.ofW (cc := cX9_insert) (maxL := 3) (ret := (some .int)) (by decide) rfl ?_
  intro p e s m args below meth c s₁ B hml hv
  obtain ⟨rfl, hsz, hn9, hP, hC, hD0⟩ := hv
  have hK := hC.1
  have hNW := hC.2.1
  have hx := B.exec
  have hb := B.bytes
  have hrt := B.returns
  have hts := atoms_spec (ws := wsX9_insert) B.pre
  have hown : s.vm.findClass RX9 = some m.cls := findClass_of_methodNamed B.named
  have hlocks := B.notSynchronized
  subst hsz
  obtain ⟨A, hAd⟩ : ∃ A, A = va_A (va_pl L f) s.heap.size := ⟨_, rfl⟩
  have hD := hD0.self (sz := s.heap.size)
  rw [← hAd] at hD
  have hA : ∀ q : Nat, s.heap.size ≤ q → A q := fun q h => by rw [hAd]; exact Or.inr h
  have hAn : ∀ q : Nat, A q → n0 ≤ q := fun q h => by
    rw [hAd] at h
    rcases h with ⟨k9, e9, hk9⟩ | h
    · exact hD0.2 k9 _ hk9
    · exact Nat.le_trans hn9 h
  have hS : va_S A s.heap s.heap [] := va_S.rf
  have hi_X9 : ∀ w ∈ u_ws RX9 TX9 3, w ∈ wsX9_insert := by decide +kernel
  have hw_0 := hts (.fieldLink RX9 12 "Regionry" "text" "LRegionry$Text;") (by decide +kernel)
  have hl := lv_entry ([.ref (gA g 0), .int (zI (z)), .int (zI (y))]) (n := 3) (Nat.le_of_ble_eq_true rfl)
  rw [lg_entry_eq]
  generalize (lg_sl ([.ref (gA g 0), .int (zI (z)), .int (zI (y))]) ++ List.replicate (3 - (lg_sl ([.ref (gA g 0), .int (zI (z)), .int (zI (y))])).length) Slot.unset).toArray = ls at hl ⊢
  have hl : lv_has ls 3 [(0, .ref (gA g 0)), (1, .int (zI (z))), (2, .int (zI (y)))] := hl
  obtain ⟨Q, hQ⟩ : ∃ Q, Q = MQ below (va_Qi (fun r9 u => r9 = zI (sN S + 1) ∧ ∃ (G : Nat → Nat → Int32) (F : Nat → va_E), (∀ i, i < 4 → ∀ j : Nat, j < 24 → G i j = op2 (sR S i) z 24 j) ∧ u = va_pl L F ∧ cRep k L F g (insS S z y G)) (pB D (va_pl L f) s.heap.size) (va_A (va_pl L f) s.heap.size)) ([.ref (gA g 0), .int (zI (z)), .int (zI (y))] : List Value).toArray s 0 0 (va_A (va_pl L f) s.heap.size) := ⟨_, rfl⟩
  rw [← hQ]
  obtain ⟨⟨a0, a1, a2, a3, a4⟩, aL, ao, aM, aE, aX⟩ := id hR
  have hn0 := hO.1
  have hc0 := hO.2.2.2.1
  refine lv_aload_n hx hb dX9_insert_0 rfl (lv_at hl 0 rfl) ?_
  refine pl_get (ci := 8) (v := .ref (gA g 1)) (C := RX9) (T := TX9) (N := 3) hx hb hts hi_X9 hown hK hP (aL 0 (by decide)) a0 rfl 0 (by decide) hw_0 (fun _ h9 => h9) rfl dX9_insert_1 ?_
  refine lv_iload_n hx hb dX9_insert_4 rfl (lv_at hl 1 rfl) ?_
  refine lv_iload_n hx hb dX9_insert_5 rfl (lv_at hl 2 rfl) ?_
  refine pc_calli (va_runV (As := [.int (zI (z)), .int (zI (y))]) (rest := []) ⟨hx, hb, hml, hown, hts⟩ (kX8_put l D k L f (gA g 1) (gA g 2) (gA g 3) (sN S) (sT S) (aL 1 (by decide)) a1 (aL 2 (by decide)) a2 hn0 (fun j => gA g (5 + j)) (fun j => gA g (9 + j)) (gM g) (sR S) (aL 3 (by decide)) a3 (fun j hj => (aM j hj).1) (fun j hj => (aM j hj).2.1) (fun j hj => (aM j hj).2.2.1) (fun j hj => (aM j hj).2.2.2.1) (fun j hj => (aM j hj).2.2.2.2.1) (cR_inj hR) (cR_lm hR) z y hz hy hn2 n0 _) (cwV 2 hts gX9_insert_X8_put rfl rfl rfl (by decide +kernel) ⟨Nat.le_of_ble_eq_true rfl, Nat.le_of_ble_eq_true rfl⟩) (pc_preV hC hP (Nat.le_trans hn9 hS.1) hD hAn (pl_recv hK hP (aL 1 (by decide)) a1 (ci := 7) (q := (RX8, TX8, 3)) rfl)) rfl rfl hl.1 rfl (lv_room (Nat.le_of_ble_eq_true rfl)) dX9_insert_6 ⟨Nat.zero_le _, Nat.zero_le _⟩) hD hS hA (fun r1 ur1 H locs hr1 hP hD hS hzr1 => ?_)
  rw [hQ]
  exact pc_iret hx hb hrt hP (by rw [← hAd]; exact hD) (by rw [← hAd]; exact hS) (ins_post hR hO hr1) dX9_insert_9 hlocks

set_option maxHeartbeats 4000000 in
set_option maxRecDepth 100000 in
theorem kX9_insert_x (l : Launch) (D : va_G) (k : Nat → ClassId) (L : List Nat) (f : Nat → va_E) (g : CG) (S : SA) (hR : cRep k L f g S) (hO : aOK S) (z : Int) (hz : -2147483648 ≤ z ∧ z < 2147483648) (y : Int) (hy : -2147483648 ≤ y ∧ y < 2147483648) (E9 : String) (hE : (¬ (0 ≤ z ∧ z ≤ sN S) ∧ E9 = "java/lang/IndexOutOfBoundsException") ∨ ((0 ≤ z ∧ z ≤ sN S) ∧ ¬ (0 ≤ y ∧ y < 6) ∧ E9 = "java/lang/IllegalArgumentException") ∨ ((0 ≤ z ∧ z ≤ sN S) ∧ (0 ≤ y ∧ y < 6) ∧ sN S = 24 ∧ E9 = "java/lang/IllegalStateException")) (hlt : l.stackTraces = false) (n0 sz : Nat) : vx_Met l yX9_insert wsX9_insert ({ frames := 7, cells := 1, slots := 6, locals := 105 } : Room) (va_Pc [.ref (gA g 0), .int (zI (z)), .int (zI (y))] (xPre D (tyL k) n0 (va_pl L f) sz)) (va_Qv (fun _ => False) (pB D (va_pl L f) sz) (va_A (va_pl L f) sz)) (xX D (va_pl L f) sz (fun E u => E = E9 ∧ u = va_pl L f)) 1 6 (va_A (va_pl L f) sz) := by
  refine vx_ofW (cc := cX9_insert) (maxL := 3) (ret := (some .int)) (by decide) rfl ?_
  intro p e s m args below meth c s₁ B hml hno hv
  obtain ⟨rfl, ⟨hsz, hn9, hP, hC, hD0⟩, hX⟩ := hv
  have hK := hC.1
  have hNW := hC.2.1
  have hx := B.exec
  have hb := B.bytes
  have hrt := B.returns
  have hts := atoms_spec (ws := wsX9_insert) B.pre
  have hown : s.vm.findClass RX9 = some m.cls := findClass_of_methodNamed B.named
  have hlocks := B.notSynchronized
  subst hsz
  obtain ⟨A, hAd⟩ : ∃ A, A = va_A (va_pl L f) s.heap.size := ⟨_, rfl⟩
  have hD := hD0.self (sz := s.heap.size)
  rw [← hAd] at hD
  have hA : ∀ q : Nat, s.heap.size ≤ q → A q := fun q h => by rw [hAd]; exact Or.inr h
  have hAn : ∀ q : Nat, A q → n0 ≤ q := fun q h => by
    rw [hAd] at h
    rcases h with ⟨k9, e9, hk9⟩ | h
    · exact hD0.2 k9 _ hk9
    · exact Nat.le_trans hn9 h
  have hS : va_S A s.heap s.heap [] := va_S.rf
  have hi_X9 : ∀ w ∈ u_ws RX9 TX9 3, w ∈ wsX9_insert := by decide +kernel
  have hw_0 := hts (.fieldLink RX9 12 "Regionry" "text" "LRegionry$Text;") (by decide +kernel)
  have hl := lv_entry ([.ref (gA g 0), .int (zI (z)), .int (zI (y))]) (n := 3) (Nat.le_of_ble_eq_true rfl)
  rw [lg_entry_eq]
  generalize (lg_sl ([.ref (gA g 0), .int (zI (z)), .int (zI (y))]) ++ List.replicate (3 - (lg_sl ([.ref (gA g 0), .int (zI (z)), .int (zI (y))])).length) Slot.unset).toArray = ls at hl ⊢
  have hl : lv_has ls 3 [(0, .ref (gA g 0)), (1, .int (zI (z))), (2, .int (zI (y)))] := hl
  obtain ⟨Q, hQ⟩ : ∃ Q, Q = vx_MQ below (va_Qv (fun _ => False) (pB D (va_pl L f) s.heap.size) (va_A (va_pl L f) s.heap.size)) (xX D (va_pl L f) s.heap.size (fun E u => E = E9 ∧ u = va_pl L f)) ([.ref (gA g 0), .int (zI (z)), .int (zI (y))] : List Value).toArray s 1 6 (va_A (va_pl L f) s.heap.size) := ⟨_, rfl⟩
  rw [← hQ]
  obtain ⟨⟨a0, a1, a2, a3, a4⟩, aL, ao, aM, aE, aX⟩ := id hR
  have hn0 := hO.1
  have hc0 := hO.2.2.2.1
  refine lv_aload_n hx hb dX9_insert_0 rfl (lv_at hl 0 rfl) ?_
  refine pl_get (ci := 8) (v := .ref (gA g 1)) (C := RX9) (T := TX9) (N := 3) hx hb hts hi_X9 hown hK hP (aL 0 (by decide)) a0 rfl 0 (by decide) hw_0 (fun _ h9 => h9) rfl dX9_insert_1 ?_
  refine lv_iload_n hx hb dX9_insert_4 rfl (lv_at hl 1 rfl) ?_
  refine lv_iload_n hx hb dX9_insert_5 rfl (lv_at hl 2 rfl) ?_
  rw [hQ]
  exact px_outv (vx_runV (As := [.int (zI (z)), .int (zI (y))]) (rest := []) ⟨hx, hb, hml, hown, hts⟩ (kX8_put_x l D k L f (gA g 1) (gA g 2) (gA g 3) (sN S) (sT S) (aL 1 (by decide)) a1 (aL 2 (by decide)) a2 hn0 z y hz hy E9 hE hlt n0 _) (cwV 2 hts gX9_insert_X8_put rfl rfl rfl (by decide +kernel) ⟨Nat.le_of_ble_eq_true rfl, Nat.le_of_ble_eq_true rfl⟩) (xc_preV hC hX hP (Nat.le_trans hn9 hS.1) hD hS hAn (pl_recv hK hP (aL 1 (by decide)) a1 (ci := 7) (q := (RX8, TX8, 3)) rfl)) rfl rfl hl.1 rfl (lv_room (Nat.le_of_ble_eq_true rfl)) dX9_insert_6 ⟨Nat.le_of_ble_eq_true rfl, Nat.le_of_ble_eq_true rfl⟩) (by rw [← hAd]; exact hD) (by rw [← hAd]; exact hS) hlocks hno (Nat.le_of_ble_eq_true rfl) (Nat.le_of_ble_eq_true rfl) (fun E u h => h)

set_option maxHeartbeats 4000000 in
set_option maxRecDepth 100000 in
theorem kX9_remove (l : Launch) (D : va_G) (k : Nat → ClassId) (L : List Nat) (f : Nat → va_E) (g : CG) (S : SA) (hR : cRep k L f g S) (hO : aOK S) (z : Int) (hz : 0 ≤ z ∧ z < sN S) (n0 sz : Nat) : Met l yX9_remove wsX9_remove ({ frames := 5, cells := 0, slots := 0, locals := 108 } : Room) (va_Pc [.ref (gA g 0), .int (zI (z))] (pPre D (tyL k) n0 (va_pl L f) sz)) (va_Qi (fun r9 u => r9 = sT S z.toNat ∧ ∃ F : Nat → va_E, u = va_pl L F ∧ cRep k L F g (remS S z (fun i => fa_fill (clF (sR S i) z) (sR S i) 24))) (pB D (va_pl L f) sz) (va_A (va_pl L f) sz)) 0 0 (va_A (va_pl L f) sz) := by
  refine Met.ofW (cc := cX9_remove) (maxL := 2) (ret := (some .int)) (by decide) rfl ?_
  intro p e s m args below meth c s₁ B hml hv
  obtain ⟨rfl, hsz, hn9, hP, hC, hD0⟩ := hv
  have hK := hC.1
  have hNW := hC.2.1
  have hx := B.exec
  have hb := B.bytes
  have hrt := B.returns
  have hts := atoms_spec (ws := wsX9_remove) B.pre
  have hown : s.vm.findClass RX9 = some m.cls := findClass_of_methodNamed B.named
  have hlocks := B.notSynchronized
  subst hsz
  obtain ⟨A, hAd⟩ : ∃ A, A = va_A (va_pl L f) s.heap.size := ⟨_, rfl⟩
  have hD := hD0.self (sz := s.heap.size)
  rw [← hAd] at hD
  have hA : ∀ q : Nat, s.heap.size ≤ q → A q := fun q h => by rw [hAd]; exact Or.inr h
  have hAn : ∀ q : Nat, A q → n0 ≤ q := fun q h => by
    rw [hAd] at h
    rcases h with ⟨k9, e9, hk9⟩ | h
    · exact hD0.2 k9 _ hk9
    · exact Nat.le_trans hn9 h
  have hS : va_S A s.heap s.heap [] := va_S.rf
  have hi_X9 : ∀ w ∈ u_ws RX9 TX9 3, w ∈ wsX9_remove := by decide +kernel
  have hw_0 := hts (.fieldLink RX9 12 "Regionry" "text" "LRegionry$Text;") (by decide +kernel)
  have hl := lv_entry ([.ref (gA g 0), .int (zI (z))]) (n := 2) (Nat.le_of_ble_eq_true rfl)
  rw [lg_entry_eq]
  generalize (lg_sl ([.ref (gA g 0), .int (zI (z))]) ++ List.replicate (2 - (lg_sl ([.ref (gA g 0), .int (zI (z))])).length) Slot.unset).toArray = ls at hl ⊢
  have hl : lv_has ls 2 [(0, .ref (gA g 0)), (1, .int (zI (z)))] := hl
  obtain ⟨Q, hQ⟩ : ∃ Q, Q = MQ below (va_Qi (fun r9 u => r9 = sT S z.toNat ∧ ∃ F : Nat → va_E, u = va_pl L F ∧ cRep k L F g (remS S z (fun i => fa_fill (clF (sR S i) z) (sR S i) 24))) (pB D (va_pl L f) s.heap.size) (va_A (va_pl L f) s.heap.size)) ([.ref (gA g 0), .int (zI (z))] : List Value).toArray s 0 0 (va_A (va_pl L f) s.heap.size) := ⟨_, rfl⟩
  rw [← hQ]
  obtain ⟨⟨a0, a1, a2, a3, a4⟩, aL, ao, aM, aE, aX⟩ := id hR
  have hn0 := hO.1
  have hc0 := hO.2.2.2.1
  refine lv_aload_n hx hb dX9_remove_0 rfl (lv_at hl 0 rfl) ?_
  refine pl_get (ci := 8) (v := .ref (gA g 1)) (C := RX9) (T := TX9) (N := 3) hx hb hts hi_X9 hown hK hP (aL 0 (by decide)) a0 rfl 0 (by decide) hw_0 (fun _ h9 => h9) rfl dX9_remove_1 ?_
  refine lv_iload_n hx hb dX9_remove_4 rfl (lv_at hl 1 rfl) ?_
  refine pc_calli (va_runV (As := [.int (zI (z))]) (rest := []) ⟨hx, hb, hml, hown, hts⟩ (kX8_take l D k L f (gA g 1) (gA g 2) (gA g 3) (sN S) (sT S) (aL 1 (by decide)) a1 (aL 2 (by decide)) a2 hn0 (fun j => gA g (5 + j)) (fun j => gA g (9 + j)) (gM g) (sR S) (aL 3 (by decide)) a3 (fun j hj => (aM j hj).1) (fun j hj => (aM j hj).2.1) (fun j hj => (aM j hj).2.2.1) (fun j hj => (aM j hj).2.2.2.1) (fun j hj => (aM j hj).2.2.2.2.1) (cR_inj hR) (cR_lm hR) z hz n0 _) (cwV 1 hts gX9_remove_X8_take rfl rfl rfl (by decide +kernel) ⟨Nat.le_of_ble_eq_true rfl, Nat.le_of_ble_eq_true rfl⟩) (pc_preV hC hP (Nat.le_trans hn9 hS.1) hD hAn (pl_recv hK hP (aL 1 (by decide)) a1 (ci := 7) (q := (RX8, TX8, 3)) rfl)) rfl rfl hl.1 rfl (lv_room (Nat.le_of_ble_eq_true rfl)) dX9_remove_5 ⟨Nat.zero_le _, Nat.zero_le _⟩) hD hS hA (fun r1 ur1 H locs hr1 hP hD hS hzr1 => ?_)
  rw [hQ]
  exact pc_iret hx hb hrt hP (by rw [← hAd]; exact hD) (by rw [← hAd]; exact hS) (rem_post hR hO hr1) dX9_remove_8 hlocks

set_option maxHeartbeats 4000000 in
set_option maxRecDepth 100000 in
theorem kX9_remove_x (l : Launch) (D : va_G) (k : Nat → ClassId) (L : List Nat) (f : Nat → va_E) (g : CG) (S : SA) (hR : cRep k L f g S) (hO : aOK S) (z : Int) (hz : -2147483648 ≤ z ∧ z < 2147483648) (hz2 : ¬ (0 ≤ z ∧ z < sN S)) (hlt : l.stackTraces = false) (n0 sz : Nat) : vx_Met l yX9_remove wsX9_remove ({ frames := 8, cells := 1, slots := 6, locals := 126 } : Room) (va_Pc [.ref (gA g 0), .int (zI (z))] (xPre D (tyL k) n0 (va_pl L f) sz)) (va_Qv (fun _ => False) (pB D (va_pl L f) sz) (va_A (va_pl L f) sz)) (xX D (va_pl L f) sz (fun E u => E = "java/lang/IndexOutOfBoundsException" ∧ u = va_pl L f)) 1 6 (va_A (va_pl L f) sz) := by
  refine vx_ofW (cc := cX9_remove) (maxL := 2) (ret := (some .int)) (by decide) rfl ?_
  intro p e s m args below meth c s₁ B hml hno hv
  obtain ⟨rfl, ⟨hsz, hn9, hP, hC, hD0⟩, hX⟩ := hv
  have hK := hC.1
  have hNW := hC.2.1
  have hx := B.exec
  have hb := B.bytes
  have hrt := B.returns
  have hts := atoms_spec (ws := wsX9_remove) B.pre
  have hown : s.vm.findClass RX9 = some m.cls := findClass_of_methodNamed B.named
  have hlocks := B.notSynchronized
  subst hsz
  obtain ⟨A, hAd⟩ : ∃ A, A = va_A (va_pl L f) s.heap.size := ⟨_, rfl⟩
  have hD := hD0.self (sz := s.heap.size)
  rw [← hAd] at hD
  have hA : ∀ q : Nat, s.heap.size ≤ q → A q := fun q h => by rw [hAd]; exact Or.inr h
  have hAn : ∀ q : Nat, A q → n0 ≤ q := fun q h => by
    rw [hAd] at h
    rcases h with ⟨k9, e9, hk9⟩ | h
    · exact hD0.2 k9 _ hk9
    · exact Nat.le_trans hn9 h
  have hS : va_S A s.heap s.heap [] := va_S.rf
  have hi_X9 : ∀ w ∈ u_ws RX9 TX9 3, w ∈ wsX9_remove := by decide +kernel
  have hw_0 := hts (.fieldLink RX9 12 "Regionry" "text" "LRegionry$Text;") (by decide +kernel)
  have hl := lv_entry ([.ref (gA g 0), .int (zI (z))]) (n := 2) (Nat.le_of_ble_eq_true rfl)
  rw [lg_entry_eq]
  generalize (lg_sl ([.ref (gA g 0), .int (zI (z))]) ++ List.replicate (2 - (lg_sl ([.ref (gA g 0), .int (zI (z))])).length) Slot.unset).toArray = ls at hl ⊢
  have hl : lv_has ls 2 [(0, .ref (gA g 0)), (1, .int (zI (z)))] := hl
  obtain ⟨Q, hQ⟩ : ∃ Q, Q = vx_MQ below (va_Qv (fun _ => False) (pB D (va_pl L f) s.heap.size) (va_A (va_pl L f) s.heap.size)) (xX D (va_pl L f) s.heap.size (fun E u => E = "java/lang/IndexOutOfBoundsException" ∧ u = va_pl L f)) ([.ref (gA g 0), .int (zI (z))] : List Value).toArray s 1 6 (va_A (va_pl L f) s.heap.size) := ⟨_, rfl⟩
  rw [← hQ]
  obtain ⟨⟨a0, a1, a2, a3, a4⟩, aL, ao, aM, aE, aX⟩ := id hR
  have hn0 := hO.1
  have hc0 := hO.2.2.2.1
  refine lv_aload_n hx hb dX9_remove_0 rfl (lv_at hl 0 rfl) ?_
  refine pl_get (ci := 8) (v := .ref (gA g 1)) (C := RX9) (T := TX9) (N := 3) hx hb hts hi_X9 hown hK hP (aL 0 (by decide)) a0 rfl 0 (by decide) hw_0 (fun _ h9 => h9) rfl dX9_remove_1 ?_
  refine lv_iload_n hx hb dX9_remove_4 rfl (lv_at hl 1 rfl) ?_
  rw [hQ]
  exact px_outv (vx_runV (As := [.int (zI (z))]) (rest := []) ⟨hx, hb, hml, hown, hts⟩ (kX8_take_x l D k L f (gA g 1) (gA g 2) (gA g 3) (sN S) (sT S) (aL 1 (by decide)) a1 (aL 2 (by decide)) a2 hn0 z hz hz2 hlt n0 _) (cwV 1 hts gX9_remove_X8_take rfl rfl rfl (by decide +kernel) ⟨Nat.le_of_ble_eq_true rfl, Nat.le_of_ble_eq_true rfl⟩) (xc_preV hC hX hP (Nat.le_trans hn9 hS.1) hD hS hAn (pl_recv hK hP (aL 1 (by decide)) a1 (ci := 7) (q := (RX8, TX8, 3)) rfl)) rfl rfl hl.1 rfl (lv_room (Nat.le_of_ble_eq_true rfl)) dX9_remove_5 ⟨Nat.le_of_ble_eq_true rfl, Nat.le_of_ble_eq_true rfl⟩) (by rw [← hAd]; exact hD) (by rw [← hAd]; exact hS) hlocks hno (Nat.le_of_ble_eq_true rfl) (Nat.le_of_ble_eq_true rfl) (fun E u h => h)

set_option maxHeartbeats 4000000 in
set_option maxRecDepth 100000 in
theorem kX9_mark (l : Launch) (D : va_G) (k : Nat → ClassId) (L : List Nat) (f : Nat → va_E) (g : CG) (S : SA) (hR : cRep k L f g S) (hO : aOK S) (z : Int) (hz : 0 ≤ z ∧ z < 4) (y x : Int) (hr9 : 0 ≤ y ∧ y < x ∧ x ≤ sN S) (n0 sz : Nat) : Met l yX9_mark wsX9_mark ({ frames := 2, cells := 0, slots := 0, locals := 43 } : Room) (va_Pc [.ref (gA g 0), .int (zI (z)), .int (zI (y)), .int (zI (x))] (pPre D (tyL k) n0 (va_pl L f) sz)) (va_Qi (fun r9 u => r9 = bI (!hasB (sR S z.toNat) y x) ∧ u = va_pl L (va_up f (gA g (9 + z.toNat)) (.inl (k 0, 24, .inl (addR (sR S z.toNat) y x))))) (pB D (va_pl L f) sz) (va_A (va_pl L f) sz)) 0 0 (va_A (va_pl L f) sz) := by
  refine Met.ofW (cc := cX9_mark) (maxL := 6) (ret := (some .boolean)) (by decide) rfl ?_
  intro p e s m args below meth c s₁ B hml hv
  obtain ⟨rfl, hsz, hn9, hP, hC, hD0⟩ := hv
  have hK := hC.1
  have hNW := hC.2.1
  have hx := B.exec
  have hb := B.bytes
  have hrt := B.returns
  have hts := atoms_spec (ws := wsX9_mark) B.pre
  have hown : s.vm.findClass RX9 = some m.cls := findClass_of_methodNamed B.named
  have hlocks := B.notSynchronized
  subst hsz
  obtain ⟨A, hAd⟩ : ∃ A, A = va_A (va_pl L f) s.heap.size := ⟨_, rfl⟩
  have hD := hD0.self (sz := s.heap.size)
  rw [← hAd] at hD
  have hA : ∀ q : Nat, s.heap.size ≤ q → A q := fun q h => by rw [hAd]; exact Or.inr h
  have hAn : ∀ q : Nat, A q → n0 ≤ q := fun q h => by
    rw [hAd] at h
    rcases h with ⟨k9, e9, hk9⟩ | h
    · exact hD0.2 k9 _ hk9
    · exact Nat.le_trans hn9 h
  have hS : va_S A s.heap s.heap [] := va_S.rf
  have hi_X9 : ∀ w ∈ u_ws RX9 TX9 3, w ∈ wsX9_mark := by decide +kernel
  have hw_0 := hts (.fieldLink RX9 12 "Regionry" "text" "LRegionry$Text;") (by decide +kernel)
  have hl := lv_entry ([.ref (gA g 0), .int (zI (z)), .int (zI (y)), .int (zI (x))]) (n := 6) (Nat.le_of_ble_eq_true rfl)
  rw [lg_entry_eq]
  generalize (lg_sl ([.ref (gA g 0), .int (zI (z)), .int (zI (y)), .int (zI (x))]) ++ List.replicate (6 - (lg_sl ([.ref (gA g 0), .int (zI (z)), .int (zI (y)), .int (zI (x))])).length) Slot.unset).toArray = ls at hl ⊢
  have hl : lv_has ls 6 [(0, .ref (gA g 0)), (1, .int (zI (z))), (2, .int (zI (y))), (3, .int (zI (x)))] := hl
  obtain ⟨Q, hQ⟩ : ∃ Q, Q = MQ below (va_Qi (fun r9 u => r9 = bI (!hasB (sR S z.toNat) y x) ∧ u = va_pl L (va_up f (gA g (9 + z.toNat)) (.inl (k 0, 24, .inl (addR (sR S z.toNat) y x))))) (pB D (va_pl L f) s.heap.size) (va_A (va_pl L f) s.heap.size)) ([.ref (gA g 0), .int (zI (z)), .int (zI (y)), .int (zI (x))] : List Value).toArray s 0 0 (va_A (va_pl L f) s.heap.size) := ⟨_, rfl⟩
  rw [← hQ]
  obtain ⟨⟨a0, a1, a2, a3, a4⟩, aL, ao, aM, aE, aX⟩ := id hR
  have hn0 := hO.1
  have hc0 := hO.2.2.2.1
  refine lv_aload_n hx hb dX9_mark_0 rfl (lv_at hl 0 rfl) ?_
  refine pl_get (ci := 8) (v := .ref (gA g 1)) (C := RX9) (T := TX9) (N := 3) hx hb hts hi_X9 hown hK hP (aL 0 (by decide)) a0 rfl 0 (by decide) hw_0 (fun _ h9 => h9) rfl dX9_mark_1 ?_
  refine lv_iload_n hx hb dX9_mark_4 rfl (lv_at hl 1 rfl) ?_
  refine va_csr (va_Run.run (va_runV (As := [.int (zI (z))]) (rest := []) ⟨hx, hb, hml, hown, hts⟩ (kX8_marksOf l D k L f (gA g 1) (gA g 2) (gA g 3) (sN S) (sT S) (aL 1 (by decide)) a1 (aL 2 (by decide)) a2 hn0 (fun j => gA g (5 + j)) (fun j => gA g (9 + j)) (gM g) (sR S) (aL 3 (by decide)) a3 (fun j hj => (aM j hj).1) (fun j hj => (aM j hj).2.1) (fun j hj => (aM j hj).2.2.1) (fun j hj => (aM j hj).2.2.2.1) (fun j hj => (aM j hj).2.2.2.2.1) (cR_inj hR) (cR_lm hR) z (by omega)) (cwV 1 hts gX9_mark_X8_marksOf rfl rfl rfl (by decide +kernel) ⟨Nat.le_of_ble_eq_true rfl, Nat.le_of_ble_eq_true rfl⟩) (rc_preV hC hP (pl_recv hK hP (aL 1 (by decide)) a1 (ci := 7) (q := (RX8, TX8, 3)) rfl)) rfl rfl hl.1 rfl (lv_room (Nat.le_of_ble_eq_true rfl)) dX9_mark_5 ⟨Nat.zero_le _, Nat.zero_le _⟩)) (fun r1 hr1 => ?_)
  subst hr1
  refine lv_astore (lv' := [(4, .ref (gA g (5 + z.toNat))), (0, .ref (gA g 0)), (1, .int (zI (z))), (2, .int (zI (y))), (3, .int (zI (x)))]) hx hb dX9_mark_8 hl (by decide) rfl (fun ls hl => ?_)
  refine lv_aload_n hx hb dX9_mark_10 rfl (lv_at hl 1 rfl) ?_
  refine pl_get (ci := 8) (v := .ref (gA g 1)) (C := RX9) (T := TX9) (N := 3) hx hb hts hi_X9 hown hK hP (aL 0 (by decide)) a0 rfl 0 (by decide) hw_0 (fun _ h9 => h9) rfl dX9_mark_11 ?_
  refine lv_iload_n hx hb dX9_mark_14 rfl (lv_at hl 3 rfl) ?_
  refine lv_iload_n hx hb dX9_mark_15 rfl (lv_at hl 4 rfl) ?_
  refine vp_callSi (va_Run.run (va_runV (As := [.int (zI (y)), .int (zI (x))]) (rest := []) ⟨hx, hb, hml, hown, hts⟩ (kX8_isRegion l D k L f (gA g 1) (gA g 2) (gA g 3) ((sN S)) ((sT S)) (aL 1 (by decide)) a1 (aL 2 (by decide)) a2 (by omega) (y) (by omega) (x) (by omega)) (cwV 2 hts gX9_mark_X8_isRegion rfl rfl rfl (by decide +kernel) ⟨Nat.le_of_ble_eq_true rfl, Nat.le_of_ble_eq_true rfl⟩) (rc_preV hC hP (pl_recv hK hP (aL 1 (by decide)) a1 (ci := 7) (q := (RX8, TX8, 3)) rfl)) rfl rfl hl.1 rfl (lv_room (Nat.le_of_ble_eq_true rfl)) dX9_mark_16 ⟨Nat.zero_le _, Nat.zero_le _⟩)) (fun r2 hr2 => ?_)
  subst hr2
  refine zr_ifb_ne (tgt := 32) hx hb dX9_mark_19 (by decide) (fun c3 => ?_) (fun c3 => ?_)
  · refine lv_aload hx hb dX9_mark_32 (lv_at hl 0 rfl) ?_
    refine lv_iload_n hx hb dX9_mark_34 rfl (lv_at hl 3 rfl) ?_
    refine lv_iload_n hx hb dX9_mark_35 rfl (lv_at hl 4 rfl) ?_
    refine vp_callSi (va_Run.run (va_runV (As := [.int (zI (y)), .int (zI (x))]) (rest := []) ⟨hx, hb, hml, hown, hts⟩ (kX6_contains l D k L f (gA g (5 + z.toNat)) (gA g (9 + z.toNat)) ((sR S z.toNat)) (aM z.toNat (by omega)).2.1 (aM z.toNat (by omega)).2.2.1 (aM z.toNat (by omega)).2.2.2.1 (aM z.toNat (by omega)).2.2.2.2.1 (y) (by omega) (x) (by omega)) (cwV 2 hts gX9_mark_X6_contains rfl rfl rfl (by decide +kernel) ⟨Nat.le_of_ble_eq_true rfl, Nat.le_of_ble_eq_true rfl⟩) (rc_preV hC hP (pl_recv hK hP (aM z.toNat (by omega)).2.1 (aM z.toNat (by omega)).2.2.1 (ci := 5) (q := (RX6, TX6, 1)) rfl)) rfl rfl hl.1 rfl (lv_room (Nat.le_of_ble_eq_true rfl)) dX9_mark_36 ⟨Nat.zero_le _, Nat.zero_le _⟩)) (fun r4 hr4 => ?_)
    subst hr4
    refine zr_ifb_ne (tgt := 46) hx hb dX9_mark_39 (by decide) (fun c5 => ?_) (fun c5 => ?_)
    · refine zr_const hx hb dX9_mark_46 ?_
      refine lv_istore (lv' := [(5, .int (zI (0))), (4, .ref (gA g (5 + z.toNat))), (0, .ref (gA g 0)), (1, .int (zI (z))), (2, .int (zI (y))), (3, .int (zI (x)))]) hx hb dX9_mark_47 hl (by decide) rfl (fun ls hl => ?_)
      refine lv_aload hx hb dX9_mark_49 (lv_at hl 1 rfl) ?_
      refine lv_iload_n hx hb dX9_mark_51 rfl (lv_at hl 4 rfl) ?_
      refine lv_iload_n hx hb dX9_mark_52 rfl (lv_at hl 5 rfl) ?_
      refine pc_callv (va_runV (As := [.int (zI (y)), .int (zI (x))]) (rest := []) ⟨hx, hb, hml, hown, hts⟩ (kX6_add l D k L f (gA g (5 + z.toNat)) (gA g (9 + z.toNat)) ((sR S z.toNat)) (aM z.toNat (by omega)).2.1 (aM z.toNat (by omega)).2.2.1 (aM z.toNat (by omega)).2.2.2.1 (aM z.toNat (by omega)).2.2.2.2.1 (y) (by omega) (x) (by omega) n0 _) (cwV 2 hts gX9_mark_X6_add rfl rfl rfl (by decide +kernel) ⟨Nat.le_of_ble_eq_true rfl, Nat.le_of_ble_eq_true rfl⟩) (pc_preV hC hP (Nat.le_trans hn9 hS.1) hD hAn (pl_recv hK hP (aM z.toNat (by omega)).2.1 (aM z.toNat (by omega)).2.2.1 (ci := 5) (q := (RX6, TX6, 1)) rfl)) rfl rfl hl.1 rfl (lv_room (Nat.le_of_ble_eq_true rfl)) dX9_mark_53 ⟨Nat.zero_le _, Nat.zero_le _⟩) hD hS hA (fun ur6 H locs hr6 hP hD hS hzr6 => ?_)
      subst hr6
      have hP : va_P D vwCl (va_pl L (va_up f (gA g (9 + z.toNat)) (.inl (k 0, 24, .inl (addR ((sR S z.toNat)) y x))))) H := hP
      have hD : va_D A (va_pl L (va_up f (gA g (9 + z.toNat)) (.inl (k 0, 24, .inl (addR ((sR S z.toNat)) y x))))) := hD
      refine lv_iload hx hb dX9_mark_56 (lv_at hl 0 rfl) ?_
      rw [hQ]
      refine zr_top (y := bI (!hasB (sR S z.toNat) y x)) (by first | exact bI_t (by simp [*]) | exact bI_f (by simp [*])) ?_
      exact pc_zret hx hb hrt hP (by rw [← hAd]; exact hD) (by rw [← hAd]; exact hS) (⟨rfl, rfl⟩) dX9_mark_58 hlocks
    · refine zr_const hx hb dX9_mark_42 ?_
      refine lv_goto (tgt := 47) hx hb dX9_mark_43 (by decide) ?_
      refine lv_istore (lv' := [(5, .int (zI (1))), (4, .ref (gA g (5 + z.toNat))), (0, .ref (gA g 0)), (1, .int (zI (z))), (2, .int (zI (y))), (3, .int (zI (x)))]) hx hb dX9_mark_47 hl (by decide) rfl (fun ls hl => ?_)
      refine lv_aload hx hb dX9_mark_49 (lv_at hl 1 rfl) ?_
      refine lv_iload_n hx hb dX9_mark_51 rfl (lv_at hl 4 rfl) ?_
      refine lv_iload_n hx hb dX9_mark_52 rfl (lv_at hl 5 rfl) ?_
      refine pc_callv (va_runV (As := [.int (zI (y)), .int (zI (x))]) (rest := []) ⟨hx, hb, hml, hown, hts⟩ (kX6_add l D k L f (gA g (5 + z.toNat)) (gA g (9 + z.toNat)) ((sR S z.toNat)) (aM z.toNat (by omega)).2.1 (aM z.toNat (by omega)).2.2.1 (aM z.toNat (by omega)).2.2.2.1 (aM z.toNat (by omega)).2.2.2.2.1 (y) (by omega) (x) (by omega) n0 _) (cwV 2 hts gX9_mark_X6_add rfl rfl rfl (by decide +kernel) ⟨Nat.le_of_ble_eq_true rfl, Nat.le_of_ble_eq_true rfl⟩) (pc_preV hC hP (Nat.le_trans hn9 hS.1) hD hAn (pl_recv hK hP (aM z.toNat (by omega)).2.1 (aM z.toNat (by omega)).2.2.1 (ci := 5) (q := (RX6, TX6, 1)) rfl)) rfl rfl hl.1 rfl (lv_room (Nat.le_of_ble_eq_true rfl)) dX9_mark_53 ⟨Nat.zero_le _, Nat.zero_le _⟩) hD hS hA (fun ur7 H locs hr7 hP hD hS hzr7 => ?_)
      subst hr7
      have hP : va_P D vwCl (va_pl L (va_up f (gA g (9 + z.toNat)) (.inl (k 0, 24, .inl (addR ((sR S z.toNat)) y x))))) H := hP
      have hD : va_D A (va_pl L (va_up f (gA g (9 + z.toNat)) (.inl (k 0, 24, .inl (addR ((sR S z.toNat)) y x))))) := hD
      refine lv_iload hx hb dX9_mark_56 (lv_at hl 0 rfl) ?_
      rw [hQ]
      refine zr_top (y := bI (!hasB (sR S z.toNat) y x)) (by first | exact bI_t (by simp [*]) | exact bI_f (by simp [*])) ?_
      exact pc_zret hx hb hrt hP (by rw [← hAd]; exact hD) (by rw [← hAd]; exact hS) (⟨rfl, rfl⟩) dX9_mark_58 hlocks
  · exact absurd (rgB_t hr9) (by simp [*])

set_option maxHeartbeats 4000000 in
set_option maxRecDepth 100000 in
theorem kX9_mark_x (l : Launch) (D : va_G) (k : Nat → ClassId) (L : List Nat) (f : Nat → va_E) (g : CG) (S : SA) (hR : cRep k L f g S) (hO : aOK S) (z : Int) (hz : -2147483648 ≤ z ∧ z < 2147483648) (y : Int) (hy : -2147483648 ≤ y ∧ y < 2147483648) (x : Int) (hx : -2147483648 ≤ x ∧ x < 2147483648) (hz2 : ¬ (0 ≤ z ∧ z < 4)) (hlt : l.stackTraces = false) (n0 sz : Nat) : vx_Met l yX9_mark wsX9_mark ({ frames := 7, cells := 1, slots := 6, locals := 103 } : Room) (va_Pc [.ref (gA g 0), .int (zI (z)), .int (zI (y)), .int (zI (x))] (xPre D (tyL k) n0 (va_pl L f) sz)) (va_Qv (fun _ => False) (pB D (va_pl L f) sz) (va_A (va_pl L f) sz)) (xX D (va_pl L f) sz (fun E u => E = "java/lang/IndexOutOfBoundsException" ∧ u = va_pl L f)) 1 6 (va_A (va_pl L f) sz) := by
  refine vx_ofW (cc := cX9_mark) (maxL := 6) (ret := (some .boolean)) (by decide) rfl ?_
  intro p e s m args below meth c s₁ B hml hno hv
  obtain ⟨rfl, ⟨hsz, hn9, hP, hC, hD0⟩, hX⟩ := hv
  have hK := hC.1
  have hNW := hC.2.1
  have hx := B.exec
  have hb := B.bytes
  have hrt := B.returns
  have hts := atoms_spec (ws := wsX9_mark) B.pre
  have hown : s.vm.findClass RX9 = some m.cls := findClass_of_methodNamed B.named
  have hlocks := B.notSynchronized
  subst hsz
  obtain ⟨A, hAd⟩ : ∃ A, A = va_A (va_pl L f) s.heap.size := ⟨_, rfl⟩
  have hD := hD0.self (sz := s.heap.size)
  rw [← hAd] at hD
  have hA : ∀ q : Nat, s.heap.size ≤ q → A q := fun q h => by rw [hAd]; exact Or.inr h
  have hAn : ∀ q : Nat, A q → n0 ≤ q := fun q h => by
    rw [hAd] at h
    rcases h with ⟨k9, e9, hk9⟩ | h
    · exact hD0.2 k9 _ hk9
    · exact Nat.le_trans hn9 h
  have hS : va_S A s.heap s.heap [] := va_S.rf
  have hi_X9 : ∀ w ∈ u_ws RX9 TX9 3, w ∈ wsX9_mark := by decide +kernel
  have hw_0 := hts (.fieldLink RX9 12 "Regionry" "text" "LRegionry$Text;") (by decide +kernel)
  have hl := lv_entry ([.ref (gA g 0), .int (zI (z)), .int (zI (y)), .int (zI (x))]) (n := 6) (Nat.le_of_ble_eq_true rfl)
  rw [lg_entry_eq]
  generalize (lg_sl ([.ref (gA g 0), .int (zI (z)), .int (zI (y)), .int (zI (x))]) ++ List.replicate (6 - (lg_sl ([.ref (gA g 0), .int (zI (z)), .int (zI (y)), .int (zI (x))])).length) Slot.unset).toArray = ls at hl ⊢
  have hl : lv_has ls 6 [(0, .ref (gA g 0)), (1, .int (zI (z))), (2, .int (zI (y))), (3, .int (zI (x)))] := hl
  obtain ⟨Q, hQ⟩ : ∃ Q, Q = vx_MQ below (va_Qv (fun _ => False) (pB D (va_pl L f) s.heap.size) (va_A (va_pl L f) s.heap.size)) (xX D (va_pl L f) s.heap.size (fun E u => E = "java/lang/IndexOutOfBoundsException" ∧ u = va_pl L f)) ([.ref (gA g 0), .int (zI (z)), .int (zI (y)), .int (zI (x))] : List Value).toArray s 1 6 (va_A (va_pl L f) s.heap.size) := ⟨_, rfl⟩
  rw [← hQ]
  obtain ⟨⟨a0, a1, a2, a3, a4⟩, aL, ao, aM, aE, aX⟩ := id hR
  have hn0 := hO.1
  have hc0 := hO.2.2.2.1
  refine lv_aload_n hx hb dX9_mark_0 rfl (lv_at hl 0 rfl) ?_
  refine pl_get (ci := 8) (v := .ref (gA g 1)) (C := RX9) (T := TX9) (N := 3) hx hb hts hi_X9 hown hK hP (aL 0 (by decide)) a0 rfl 0 (by decide) hw_0 (fun _ h9 => h9) rfl dX9_mark_1 ?_
  refine lv_iload_n hx hb dX9_mark_4 rfl (lv_at hl 1 rfl) ?_
  rw [hQ]
  exact px_outv (vx_runV (As := [.int (zI (z))]) (rest := []) ⟨hx, hb, hml, hown, hts⟩ (kX8_marksOf_x l D k L f (gA g 1) (gA g 2) (gA g 3) (sN S) (sT S) (aL 1 (by decide)) a1 (aL 2 (by decide)) a2 hn0 (gM g) (aL 3 (by decide)) a3 z hz hz2 hlt n0 _) (cwV 1 hts gX9_mark_X8_marksOf rfl rfl rfl (by decide +kernel) ⟨Nat.le_of_ble_eq_true rfl, Nat.le_of_ble_eq_true rfl⟩) (xc_preV hC hX hP (Nat.le_trans hn9 hS.1) hD hS hAn (pl_recv hK hP (aL 1 (by decide)) a1 (ci := 7) (q := (RX8, TX8, 3)) rfl)) rfl rfl hl.1 rfl (lv_room (Nat.le_of_ble_eq_true rfl)) dX9_mark_5 ⟨Nat.le_of_ble_eq_true rfl, Nat.le_of_ble_eq_true rfl⟩) (by rw [← hAd]; exact hD) (by rw [← hAd]; exact hS) hlocks hno (Nat.le_of_ble_eq_true rfl) (Nat.le_of_ble_eq_true rfl) (fun E u h => h)

set_option maxHeartbeats 4000000 in
set_option maxRecDepth 100000 in
theorem kX9_mark_x2 (l : Launch) (D : va_G) (k : Nat → ClassId) (L : List Nat) (f : Nat → va_E) (g : CG) (S : SA) (hR : cRep k L f g S) (hO : aOK S) (y : Int) (hy : -2147483648 ≤ y ∧ y < 2147483648) (x : Int) (hx : -2147483648 ≤ x ∧ x < 2147483648) (z : Int) (hz : 0 ≤ z ∧ z < 4) (hr9 : ¬ (0 ≤ y ∧ y < x ∧ x ≤ sN S)) (hlt : l.stackTraces = false) (n0 sz : Nat) : vx_Met l yX9_mark wsX9_mark ({ frames := 6, cells := 1, slots := 6, locals := 82 } : Room) (va_Pc [.ref (gA g 0), .int (zI (z)), .int (zI (y)), .int (zI (x))] (xPre D (tyL k) n0 (va_pl L f) sz)) (va_Qv (fun _ => False) (pB D (va_pl L f) sz) (va_A (va_pl L f) sz)) (xX D (va_pl L f) sz (fun E u => E = "java/lang/IllegalArgumentException" ∧ u = va_pl L f)) 1 6 (va_A (va_pl L f) sz) := by
  refine vx_ofW (cc := cX9_mark) (maxL := 6) (ret := (some .boolean)) (by decide) rfl ?_
  intro p e s m args below meth c s₁ B hml hno hv
  obtain ⟨rfl, ⟨hsz, hn9, hP, hC, hD0⟩, hX⟩ := hv
  have hK := hC.1
  have hNW := hC.2.1
  have hx := B.exec
  have hb := B.bytes
  have hrt := B.returns
  have hts := atoms_spec (ws := wsX9_mark) B.pre
  have hown : s.vm.findClass RX9 = some m.cls := findClass_of_methodNamed B.named
  have hlocks := B.notSynchronized
  subst hsz
  obtain ⟨A, hAd⟩ : ∃ A, A = va_A (va_pl L f) s.heap.size := ⟨_, rfl⟩
  have hD := hD0.self (sz := s.heap.size)
  rw [← hAd] at hD
  have hA : ∀ q : Nat, s.heap.size ≤ q → A q := fun q h => by rw [hAd]; exact Or.inr h
  have hAn : ∀ q : Nat, A q → n0 ≤ q := fun q h => by
    rw [hAd] at h
    rcases h with ⟨k9, e9, hk9⟩ | h
    · exact hD0.2 k9 _ hk9
    · exact Nat.le_trans hn9 h
  have hS : va_S A s.heap s.heap [] := va_S.rf
  have hi_X9 : ∀ w ∈ u_ws RX9 TX9 3, w ∈ wsX9_mark := by decide +kernel
  have hw_0 := hts (.fieldLink RX9 12 "Regionry" "text" "LRegionry$Text;") (by decide +kernel)
  have hw_1 := hts (.classLink RX9 48 "java/lang/IllegalArgumentException") (by decide +kernel)
  have hw_2 := hts (.initialized "java/lang/IllegalArgumentException") (by decide +kernel)
  have hl := lv_entry ([.ref (gA g 0), .int (zI (z)), .int (zI (y)), .int (zI (x))]) (n := 6) (Nat.le_of_ble_eq_true rfl)
  rw [lg_entry_eq]
  generalize (lg_sl ([.ref (gA g 0), .int (zI (z)), .int (zI (y)), .int (zI (x))]) ++ List.replicate (6 - (lg_sl ([.ref (gA g 0), .int (zI (z)), .int (zI (y)), .int (zI (x))])).length) Slot.unset).toArray = ls at hl ⊢
  have hl : lv_has ls 6 [(0, .ref (gA g 0)), (1, .int (zI (z))), (2, .int (zI (y))), (3, .int (zI (x)))] := hl
  obtain ⟨Q, hQ⟩ : ∃ Q, Q = vx_MQ below (va_Qv (fun _ => False) (pB D (va_pl L f) s.heap.size) (va_A (va_pl L f) s.heap.size)) (xX D (va_pl L f) s.heap.size (fun E u => E = "java/lang/IllegalArgumentException" ∧ u = va_pl L f)) ([.ref (gA g 0), .int (zI (z)), .int (zI (y)), .int (zI (x))] : List Value).toArray s 1 6 (va_A (va_pl L f) s.heap.size) := ⟨_, rfl⟩
  rw [← hQ]
  obtain ⟨⟨a0, a1, a2, a3, a4⟩, aL, ao, aM, aE, aX⟩ := id hR
  have hn0 := hO.1
  have hc0 := hO.2.2.2.1
  refine lv_aload_n hx hb dX9_mark_0 rfl (lv_at hl 0 rfl) ?_
  refine pl_get (ci := 8) (v := .ref (gA g 1)) (C := RX9) (T := TX9) (N := 3) hx hb hts hi_X9 hown hK hP (aL 0 (by decide)) a0 rfl 0 (by decide) hw_0 (fun _ h9 => h9) rfl dX9_mark_1 ?_
  refine lv_iload_n hx hb dX9_mark_4 rfl (lv_at hl 1 rfl) ?_
  refine va_csr (va_Run.run (va_runV (As := [.int (zI (z))]) (rest := []) ⟨hx, hb, hml, hown, hts⟩ (kX8_marksOf l D k L f (gA g 1) (gA g 2) (gA g 3) (sN S) (sT S) (aL 1 (by decide)) a1 (aL 2 (by decide)) a2 hn0 (fun j => gA g (5 + j)) (fun j => gA g (9 + j)) (gM g) (sR S) (aL 3 (by decide)) a3 (fun j hj => (aM j hj).1) (fun j hj => (aM j hj).2.1) (fun j hj => (aM j hj).2.2.1) (fun j hj => (aM j hj).2.2.2.1) (fun j hj => (aM j hj).2.2.2.2.1) (cR_inj hR) (cR_lm hR) z (by omega)) (cwV 1 hts gX9_mark_X8_marksOf rfl rfl rfl (by decide +kernel) ⟨Nat.le_of_ble_eq_true rfl, Nat.le_of_ble_eq_true rfl⟩) (rc_preV hC hP (pl_recv hK hP (aL 1 (by decide)) a1 (ci := 7) (q := (RX8, TX8, 3)) rfl)) rfl rfl hl.1 rfl (lv_room (Nat.le_of_ble_eq_true rfl)) dX9_mark_5 ⟨Nat.zero_le _, Nat.zero_le _⟩)) (fun r1 hr1 => ?_)
  subst hr1
  refine lv_astore (lv' := [(4, .ref (gA g (5 + z.toNat))), (0, .ref (gA g 0)), (1, .int (zI (z))), (2, .int (zI (y))), (3, .int (zI (x)))]) hx hb dX9_mark_8 hl (by decide) rfl (fun ls hl => ?_)
  refine lv_aload_n hx hb dX9_mark_10 rfl (lv_at hl 1 rfl) ?_
  refine pl_get (ci := 8) (v := .ref (gA g 1)) (C := RX9) (T := TX9) (N := 3) hx hb hts hi_X9 hown hK hP (aL 0 (by decide)) a0 rfl 0 (by decide) hw_0 (fun _ h9 => h9) rfl dX9_mark_11 ?_
  refine lv_iload_n hx hb dX9_mark_14 rfl (lv_at hl 3 rfl) ?_
  refine lv_iload_n hx hb dX9_mark_15 rfl (lv_at hl 4 rfl) ?_
  refine vp_callSi (va_Run.run (va_runV (As := [.int (zI (y)), .int (zI (x))]) (rest := []) ⟨hx, hb, hml, hown, hts⟩ (kX8_isRegion l D k L f (gA g 1) (gA g 2) (gA g 3) ((sN S)) ((sT S)) (aL 1 (by decide)) a1 (aL 2 (by decide)) a2 (by omega) (y) (by omega) (x) (by omega)) (cwV 2 hts gX9_mark_X8_isRegion rfl rfl rfl (by decide +kernel) ⟨Nat.le_of_ble_eq_true rfl, Nat.le_of_ble_eq_true rfl⟩) (rc_preV hC hP (pl_recv hK hP (aL 1 (by decide)) a1 (ci := 7) (q := (RX8, TX8, 3)) rfl)) rfl rfl hl.1 rfl (lv_room (Nat.le_of_ble_eq_true rfl)) dX9_mark_16 ⟨Nat.zero_le _, Nat.zero_le _⟩)) (fun r2 hr2 => ?_)
  subst hr2
  refine zr_ifb_ne (tgt := 32) hx hb dX9_mark_19 (by decide) (fun c3 => ?_) (fun c3 => ?_)
  · exact absurd (rgB_f hr9) (by simp [*])
  · rw [hQ]
    exact px_throw (own := RX9) (cls := "java/lang/IllegalArgumentException") (text := "no such region") (ik := 48) (is := 50) (ic := 52) hx hb hlt hown (by decide) hw_1 hw_2 (by decide) hX (px_hat hts hNW hX (by decide +kernel) (by decide +kernel) (by decide +kernel)) (by decide +kernel) hP (by rw [← hAd]; exact hD) (by rw [← hAd]; exact hS) (by rw [← hAd]; exact hAn) (hl.1.trans hml.symm) dX9_mark_22 dX9_mark_25 dX9_mark_26 dX9_mark_28 dX9_mark_31 hno (Nat.le_of_ble_eq_true rfl) (Nat.le_of_ble_eq_true rfl) (Nat.le_of_ble_eq_true rfl) (Nat.le_of_ble_eq_true rfl) hlocks (Nat.le_of_ble_eq_true rfl) (Nat.le_of_ble_eq_true rfl) (⟨rfl, rfl⟩)

set_option maxHeartbeats 4000000 in
set_option maxRecDepth 100000 in
theorem kX9_unmark (l : Launch) (D : va_G) (k : Nat → ClassId) (L : List Nat) (f : Nat → va_E) (g : CG) (S : SA) (hR : cRep k L f g S) (hO : aOK S) (z : Int) (hz : 0 ≤ z ∧ z < 4) (y : Int) (hy : -2147483648 ≤ y ∧ y < 2147483648) (a b : Nat) (ha : a < 24) (hb9 : b ≤ 24) (hq2 : hasB (sR S z.toNat) (a : Int) (b : Int) = true) (hq3 : ((fb_ct (linB (sR S z.toNat)) (25 * a + b) : Nat) : Int) = y) (n0 sz : Nat) : Met l yX9_unmark wsX9_unmark ({ frames := 2, cells := 0, slots := 0, locals := 46 } : Room) (va_Pc [.ref (gA g 0), .int (zI (z)), .int (zI (y))] (pPre D (tyL k) n0 (va_pl L f) sz)) (va_Qi (fun r9 u => r9 = zI (sizeR (dropR (sR S z.toNat) (a : Int) (b : Int))) ∧ u = va_pl L (va_up f (gA g (9 + z.toNat)) (.inl (k 0, 24, .inl (dropR (sR S z.toNat) (a : Int) (b : Int)))))) (pB D (va_pl L f) sz) (va_A (va_pl L f) sz)) 0 0 (va_A (va_pl L f) sz) := by
  refine Met.ofW (cc := cX9_unmark) (maxL := 5) (ret := (some .int)) (by decide) rfl ?_
  intro p e s m args below meth c s₁ B hml hv
  obtain ⟨rfl, hsz, hn9, hP, hC, hD0⟩ := hv
  have hK := hC.1
  have hNW := hC.2.1
  have hx := B.exec
  have hb := B.bytes
  have hrt := B.returns
  have hts := atoms_spec (ws := wsX9_unmark) B.pre
  have hown : s.vm.findClass RX9 = some m.cls := findClass_of_methodNamed B.named
  have hlocks := B.notSynchronized
  subst hsz
  obtain ⟨A, hAd⟩ : ∃ A, A = va_A (va_pl L f) s.heap.size := ⟨_, rfl⟩
  have hD := hD0.self (sz := s.heap.size)
  rw [← hAd] at hD
  have hA : ∀ q : Nat, s.heap.size ≤ q → A q := fun q h => by rw [hAd]; exact Or.inr h
  have hAn : ∀ q : Nat, A q → n0 ≤ q := fun q h => by
    rw [hAd] at h
    rcases h with ⟨k9, e9, hk9⟩ | h
    · exact hD0.2 k9 _ hk9
    · exact Nat.le_trans hn9 h
  have hS : va_S A s.heap s.heap [] := va_S.rf
  have hi_X9 : ∀ w ∈ u_ws RX9 TX9 3, w ∈ wsX9_unmark := by decide +kernel
  have hw_0 := hts (.fieldLink RX9 12 "Regionry" "text" "LRegionry$Text;") (by decide +kernel)
  have hl := lv_entry ([.ref (gA g 0), .int (zI (z)), .int (zI (y))]) (n := 5) (Nat.le_of_ble_eq_true rfl)
  rw [lg_entry_eq]
  generalize (lg_sl ([.ref (gA g 0), .int (zI (z)), .int (zI (y))]) ++ List.replicate (5 - (lg_sl ([.ref (gA g 0), .int (zI (z)), .int (zI (y))])).length) Slot.unset).toArray = ls at hl ⊢
  have hl : lv_has ls 5 [(0, .ref (gA g 0)), (1, .int (zI (z))), (2, .int (zI (y)))] := hl
  obtain ⟨Q, hQ⟩ : ∃ Q, Q = MQ below (va_Qi (fun r9 u => r9 = zI (sizeR (dropR (sR S z.toNat) (a : Int) (b : Int))) ∧ u = va_pl L (va_up f (gA g (9 + z.toNat)) (.inl (k 0, 24, .inl (dropR (sR S z.toNat) (a : Int) (b : Int)))))) (pB D (va_pl L f) s.heap.size) (va_A (va_pl L f) s.heap.size)) ([.ref (gA g 0), .int (zI (z)), .int (zI (y))] : List Value).toArray s 0 0 (va_A (va_pl L f) s.heap.size) := ⟨_, rfl⟩
  rw [← hQ]
  obtain ⟨⟨a0, a1, a2, a3, a4⟩, aL, ao, aM, aE, aX⟩ := id hR
  have hn0 := hO.1
  have hc0 := hO.2.2.2.1
  refine lv_aload_n hx hb dX9_unmark_0 rfl (lv_at hl 0 rfl) ?_
  refine pl_get (ci := 8) (v := .ref (gA g 1)) (C := RX9) (T := TX9) (N := 3) hx hb hts hi_X9 hown hK hP (aL 0 (by decide)) a0 rfl 0 (by decide) hw_0 (fun _ h9 => h9) rfl dX9_unmark_1 ?_
  refine lv_iload_n hx hb dX9_unmark_4 rfl (lv_at hl 1 rfl) ?_
  refine va_csr (va_Run.run (va_runV (As := [.int (zI (z))]) (rest := []) ⟨hx, hb, hml, hown, hts⟩ (kX8_marksOf l D k L f (gA g 1) (gA g 2) (gA g 3) (sN S) (sT S) (aL 1 (by decide)) a1 (aL 2 (by decide)) a2 hn0 (fun j => gA g (5 + j)) (fun j => gA g (9 + j)) (gM g) (sR S) (aL 3 (by decide)) a3 (fun j hj => (aM j hj).1) (fun j hj => (aM j hj).2.1) (fun j hj => (aM j hj).2.2.1) (fun j hj => (aM j hj).2.2.2.1) (fun j hj => (aM j hj).2.2.2.2.1) (cR_inj hR) (cR_lm hR) z (by omega)) (cwV 1 hts gX9_unmark_X8_marksOf rfl rfl rfl (by decide +kernel) ⟨Nat.le_of_ble_eq_true rfl, Nat.le_of_ble_eq_true rfl⟩) (rc_preV hC hP (pl_recv hK hP (aL 1 (by decide)) a1 (ci := 7) (q := (RX8, TX8, 3)) rfl)) rfl rfl hl.1 rfl (lv_room (Nat.le_of_ble_eq_true rfl)) dX9_unmark_5 ⟨Nat.zero_le _, Nat.zero_le _⟩)) (fun r1 hr1 => ?_)
  subst hr1
  refine lv_astore_n (lv' := [(3, .ref (gA g (5 + z.toNat))), (0, .ref (gA g 0)), (1, .int (zI (z))), (2, .int (zI (y)))]) hx hb dX9_unmark_8 rfl hl (by decide) rfl (fun ls hl => ?_)
  refine lv_aload_n hx hb dX9_unmark_9 rfl (lv_at hl 0 rfl) ?_
  refine lv_iload_n hx hb dX9_unmark_10 rfl (lv_at hl 3 rfl) ?_
  refine vp_callSi (va_Run.run (va_runV (As := [.int (zI (y))]) (rest := []) ⟨hx, hb, hml, hown, hts⟩ (kX6_told l D k L f (gA g (5 + z.toNat)) (gA g (9 + z.toNat)) ((sR S z.toNat)) (aM z.toNat (by omega)).2.1 (aM z.toNat (by omega)).2.2.1 (aM z.toNat (by omega)).2.2.2.1 (aM z.toNat (by omega)).2.2.2.2.1 (y) (by omega)) (cwV 1 hts gX9_unmark_X6_told rfl rfl rfl (by decide +kernel) ⟨Nat.le_of_ble_eq_true rfl, Nat.le_of_ble_eq_true rfl⟩) (rc_preV hC hP (pl_recv hK hP (aM z.toNat (by omega)).2.1 (aM z.toNat (by omega)).2.2.1 (ci := 5) (q := (RX6, TX6, 1)) rfl)) rfl rfl hl.1 rfl (lv_room (Nat.le_of_ble_eq_true rfl)) dX9_unmark_11 ⟨Nat.zero_le _, Nat.zero_le _⟩)) (fun r2 hr2 => ?_)
  obtain rfl := told_u hr2 ha hb9 hq2 hq3
  refine lv_istore (lv' := [(4, .int (zI (100 * (a : Int) + (b : Int)))), (3, .ref (gA g (5 + z.toNat))), (0, .ref (gA g 0)), (1, .int (zI (z))), (2, .int (zI (y)))]) hx hb dX9_unmark_14 hl (by decide) rfl (fun ls hl => ?_)
  refine lv_iload hx hb dX9_unmark_16 (lv_at hl 0 rfl) ?_
  refine zr_if_ge (tgt := 31) hx hb dX9_unmark_18 (by decide) (by omega) (fun c3 => ?_) (fun c3 => ?_)
  · refine lv_aload_n hx hb dX9_unmark_31 rfl (lv_at hl 1 rfl) ?_
    refine lv_iload hx hb dX9_unmark_32 (lv_at hl 0 rfl) ?_
    refine zr_bipush hx hb dX9_unmark_34 (by decide) ?_
    refine zr_div hx hb (by omega) (by omega) dX9_unmark_36 ?_
    refine lv_iload hx hb dX9_unmark_37 (lv_at hl 0 rfl) ?_
    refine zr_bipush hx hb dX9_unmark_39 (by decide) ?_
    refine zr_rem hx hb (by omega) (by omega) dX9_unmark_41 ?_
    rw [show ((100 * (a : Int) + (b : Int)) / 100 : Int) = (a : Int) by omega, show ((100 * (a : Int) + (b : Int)) % 100 : Int) = (b : Int) by omega]
    refine pc_callv (va_runV (As := [.int (zI ((a : Int))), .int (zI ((b : Int)))]) (rest := []) ⟨hx, hb, hml, hown, hts⟩ (kX6_drop l D k L f (gA g (5 + z.toNat)) (gA g (9 + z.toNat)) ((sR S z.toNat)) (aM z.toNat (by omega)).2.1 (aM z.toNat (by omega)).2.2.1 (aM z.toNat (by omega)).2.2.2.1 (aM z.toNat (by omega)).2.2.2.2.1 ((a : Int)) (by omega) ((b : Int)) (by omega) n0 _) (cwV 2 hts gX9_unmark_X6_drop rfl rfl rfl (by decide +kernel) ⟨Nat.le_of_ble_eq_true rfl, Nat.le_of_ble_eq_true rfl⟩) (pc_preV hC hP (Nat.le_trans hn9 hS.1) hD hAn (pl_recv hK hP (aM z.toNat (by omega)).2.1 (aM z.toNat (by omega)).2.2.1 (ci := 5) (q := (RX6, TX6, 1)) rfl)) rfl rfl hl.1 rfl (lv_room (Nat.le_of_ble_eq_true rfl)) dX9_unmark_42 ⟨Nat.zero_le _, Nat.zero_le _⟩) hD hS hA (fun ur4 H locs hr4 hP hD hS hzr4 => ?_)
    subst hr4
    have hP : va_P D vwCl (va_pl L (va_up f (gA g (9 + z.toNat)) (.inl (k 0, 24, .inl (dropR ((sR S z.toNat)) ((a : Int)) ((b : Int))))))) H := hP
    have hD : va_D A (va_pl L (va_up f (gA g (9 + z.toNat)) (.inl (k 0, 24, .inl (dropR ((sR S z.toNat)) ((a : Int)) ((b : Int))))))) := hD
    refine lv_aload_n hx hb dX9_unmark_45 rfl (lv_at hl 1 rfl) ?_
    refine vp_callSi (va_Run.run (va_runV (As := []) (rest := []) ⟨hx, hb, hml, hown, hts⟩ (kX6_size l D k L (va_up f (gA g (9 + z.toNat)) (.inl (k 0, 24, .inl (dropR ((sR S z.toNat)) ((a : Int)) ((b : Int)))))) (gA g (5 + z.toNat)) (gA g (9 + z.toNat)) ((dropR ((sR S z.toNat)) ((a : Int)) ((b : Int)))) (aM z.toNat (by omega)).2.1 ((va_up_ne _ _ (ne_k (aM z.toNat (by omega)).2.2.1 (aM z.toNat (by omega)).2.2.2.2.1 (by simp))).trans (aM z.toNat (by omega)).2.2.1) (aM z.toNat (by omega)).2.2.2.1 (va_up_self _ _ _) ) (cwV 0 hts gX9_unmark_X6_size rfl rfl rfl (by decide +kernel) ⟨Nat.le_of_ble_eq_true rfl, Nat.le_of_ble_eq_true rfl⟩) (rc_preV hC hP (pl_recv hK hP (aM z.toNat (by omega)).2.1 ((va_up_ne _ _ (ne_k (aM z.toNat (by omega)).2.2.1 (aM z.toNat (by omega)).2.2.2.2.1 (by simp))).trans (aM z.toNat (by omega)).2.2.1) (ci := 5) (q := (RX6, TX6, 1)) rfl)) rfl rfl hl.1 rfl (lv_room (Nat.le_of_ble_eq_true rfl)) dX9_unmark_46 ⟨Nat.zero_le _, Nat.zero_le _⟩)) (fun r5 hr5 => ?_)
    subst hr5
    rw [hQ]
    exact pc_iret hx hb hrt hP (by rw [← hAd]; exact hD) (by rw [← hAd]; exact hS) (⟨rfl, rfl⟩) dX9_unmark_49 hlocks
  · exfalso; omega

set_option maxHeartbeats 4000000 in
set_option maxRecDepth 100000 in
theorem kX9_unmark_x (l : Launch) (D : va_G) (k : Nat → ClassId) (L : List Nat) (f : Nat → va_E) (g : CG) (S : SA) (hR : cRep k L f g S) (hO : aOK S) (z : Int) (hz : -2147483648 ≤ z ∧ z < 2147483648) (y : Int) (hy : -2147483648 ≤ y ∧ y < 2147483648) (hz2 : ¬ (0 ≤ z ∧ z < 4)) (hlt : l.stackTraces = false) (n0 sz : Nat) : vx_Met l yX9_unmark wsX9_unmark ({ frames := 7, cells := 1, slots := 6, locals := 103 } : Room) (va_Pc [.ref (gA g 0), .int (zI (z)), .int (zI (y))] (xPre D (tyL k) n0 (va_pl L f) sz)) (va_Qv (fun _ => False) (pB D (va_pl L f) sz) (va_A (va_pl L f) sz)) (xX D (va_pl L f) sz (fun E u => E = "java/lang/IndexOutOfBoundsException" ∧ u = va_pl L f)) 1 6 (va_A (va_pl L f) sz) := by
  refine vx_ofW (cc := cX9_unmark) (maxL := 5) (ret := (some .int)) (by decide) rfl ?_
  intro p e s m args below meth c s₁ B hml hno hv
  obtain ⟨rfl, ⟨hsz, hn9, hP, hC, hD0⟩, hX⟩ := hv
  have hK := hC.1
  have hNW := hC.2.1
  have hx := B.exec
  have hb := B.bytes
  have hrt := B.returns
  have hts := atoms_spec (ws := wsX9_unmark) B.pre
  have hown : s.vm.findClass RX9 = some m.cls := findClass_of_methodNamed B.named
  have hlocks := B.notSynchronized
  subst hsz
  obtain ⟨A, hAd⟩ : ∃ A, A = va_A (va_pl L f) s.heap.size := ⟨_, rfl⟩
  have hD := hD0.self (sz := s.heap.size)
  rw [← hAd] at hD
  have hA : ∀ q : Nat, s.heap.size ≤ q → A q := fun q h => by rw [hAd]; exact Or.inr h
  have hAn : ∀ q : Nat, A q → n0 ≤ q := fun q h => by
    rw [hAd] at h
    rcases h with ⟨k9, e9, hk9⟩ | h
    · exact hD0.2 k9 _ hk9
    · exact Nat.le_trans hn9 h
  have hS : va_S A s.heap s.heap [] := va_S.rf
  have hi_X9 : ∀ w ∈ u_ws RX9 TX9 3, w ∈ wsX9_unmark := by decide +kernel
  have hw_0 := hts (.fieldLink RX9 12 "Regionry" "text" "LRegionry$Text;") (by decide +kernel)
  have hl := lv_entry ([.ref (gA g 0), .int (zI (z)), .int (zI (y))]) (n := 5) (Nat.le_of_ble_eq_true rfl)
  rw [lg_entry_eq]
  generalize (lg_sl ([.ref (gA g 0), .int (zI (z)), .int (zI (y))]) ++ List.replicate (5 - (lg_sl ([.ref (gA g 0), .int (zI (z)), .int (zI (y))])).length) Slot.unset).toArray = ls at hl ⊢
  have hl : lv_has ls 5 [(0, .ref (gA g 0)), (1, .int (zI (z))), (2, .int (zI (y)))] := hl
  obtain ⟨Q, hQ⟩ : ∃ Q, Q = vx_MQ below (va_Qv (fun _ => False) (pB D (va_pl L f) s.heap.size) (va_A (va_pl L f) s.heap.size)) (xX D (va_pl L f) s.heap.size (fun E u => E = "java/lang/IndexOutOfBoundsException" ∧ u = va_pl L f)) ([.ref (gA g 0), .int (zI (z)), .int (zI (y))] : List Value).toArray s 1 6 (va_A (va_pl L f) s.heap.size) := ⟨_, rfl⟩
  rw [← hQ]
  obtain ⟨⟨a0, a1, a2, a3, a4⟩, aL, ao, aM, aE, aX⟩ := id hR
  have hn0 := hO.1
  have hc0 := hO.2.2.2.1
  refine lv_aload_n hx hb dX9_unmark_0 rfl (lv_at hl 0 rfl) ?_
  refine pl_get (ci := 8) (v := .ref (gA g 1)) (C := RX9) (T := TX9) (N := 3) hx hb hts hi_X9 hown hK hP (aL 0 (by decide)) a0 rfl 0 (by decide) hw_0 (fun _ h9 => h9) rfl dX9_unmark_1 ?_
  refine lv_iload_n hx hb dX9_unmark_4 rfl (lv_at hl 1 rfl) ?_
  rw [hQ]
  exact px_outv (vx_runV (As := [.int (zI (z))]) (rest := []) ⟨hx, hb, hml, hown, hts⟩ (kX8_marksOf_x l D k L f (gA g 1) (gA g 2) (gA g 3) (sN S) (sT S) (aL 1 (by decide)) a1 (aL 2 (by decide)) a2 hn0 (gM g) (aL 3 (by decide)) a3 z hz hz2 hlt n0 _) (cwV 1 hts gX9_unmark_X8_marksOf rfl rfl rfl (by decide +kernel) ⟨Nat.le_of_ble_eq_true rfl, Nat.le_of_ble_eq_true rfl⟩) (xc_preV hC hX hP (Nat.le_trans hn9 hS.1) hD hS hAn (pl_recv hK hP (aL 1 (by decide)) a1 (ci := 7) (q := (RX8, TX8, 3)) rfl)) rfl rfl hl.1 rfl (lv_room (Nat.le_of_ble_eq_true rfl)) dX9_unmark_5 ⟨Nat.le_of_ble_eq_true rfl, Nat.le_of_ble_eq_true rfl⟩) (by rw [← hAd]; exact hD) (by rw [← hAd]; exact hS) hlocks hno (Nat.le_of_ble_eq_true rfl) (Nat.le_of_ble_eq_true rfl) (fun E u h => h)

set_option maxHeartbeats 4000000 in
set_option maxRecDepth 100000 in
theorem kX9_unmark_x2 (l : Launch) (D : va_G) (k : Nat → ClassId) (L : List Nat) (f : Nat → va_E) (g : CG) (S : SA) (hR : cRep k L f g S) (hO : aOK S) (z : Int) (hz : 0 ≤ z ∧ z < 4) (y : Int) (hy : -2147483648 ≤ y ∧ y < 2147483648) (hq2 : ∀ q, q < 600 → linB (sR S z.toNat) q = true → ((fb_ct (linB (sR S z.toNat)) q : Nat) : Int) ≠ y) (hlt : l.stackTraces = false) (n0 sz : Nat) : vx_Met l yX9_unmark wsX9_unmark ({ frames := 6, cells := 1, slots := 6, locals := 82 } : Room) (va_Pc [.ref (gA g 0), .int (zI (z)), .int (zI (y))] (xPre D (tyL k) n0 (va_pl L f) sz)) (va_Qv (fun _ => False) (pB D (va_pl L f) sz) (va_A (va_pl L f) sz)) (xX D (va_pl L f) sz (fun E u => E = "java/lang/IndexOutOfBoundsException" ∧ u = va_pl L f)) 1 6 (va_A (va_pl L f) sz) := by
  refine vx_ofW (cc := cX9_unmark) (maxL := 5) (ret := (some .int)) (by decide) rfl ?_
  intro p e s m args below meth c s₁ B hml hno hv
  obtain ⟨rfl, ⟨hsz, hn9, hP, hC, hD0⟩, hX⟩ := hv
  have hK := hC.1
  have hNW := hC.2.1
  have hx := B.exec
  have hb := B.bytes
  have hrt := B.returns
  have hts := atoms_spec (ws := wsX9_unmark) B.pre
  have hown : s.vm.findClass RX9 = some m.cls := findClass_of_methodNamed B.named
  have hlocks := B.notSynchronized
  subst hsz
  obtain ⟨A, hAd⟩ : ∃ A, A = va_A (va_pl L f) s.heap.size := ⟨_, rfl⟩
  have hD := hD0.self (sz := s.heap.size)
  rw [← hAd] at hD
  have hA : ∀ q : Nat, s.heap.size ≤ q → A q := fun q h => by rw [hAd]; exact Or.inr h
  have hAn : ∀ q : Nat, A q → n0 ≤ q := fun q h => by
    rw [hAd] at h
    rcases h with ⟨k9, e9, hk9⟩ | h
    · exact hD0.2 k9 _ hk9
    · exact Nat.le_trans hn9 h
  have hS : va_S A s.heap s.heap [] := va_S.rf
  have hi_X9 : ∀ w ∈ u_ws RX9 TX9 3, w ∈ wsX9_unmark := by decide +kernel
  have hw_0 := hts (.fieldLink RX9 12 "Regionry" "text" "LRegionry$Text;") (by decide +kernel)
  have hw_1 := hts (.classLink RX9 67 "java/lang/IndexOutOfBoundsException") (by decide +kernel)
  have hw_2 := hts (.initialized "java/lang/IndexOutOfBoundsException") (by decide +kernel)
  have hl := lv_entry ([.ref (gA g 0), .int (zI (z)), .int (zI (y))]) (n := 5) (Nat.le_of_ble_eq_true rfl)
  rw [lg_entry_eq]
  generalize (lg_sl ([.ref (gA g 0), .int (zI (z)), .int (zI (y))]) ++ List.replicate (5 - (lg_sl ([.ref (gA g 0), .int (zI (z)), .int (zI (y))])).length) Slot.unset).toArray = ls at hl ⊢
  have hl : lv_has ls 5 [(0, .ref (gA g 0)), (1, .int (zI (z))), (2, .int (zI (y)))] := hl
  obtain ⟨Q, hQ⟩ : ∃ Q, Q = vx_MQ below (va_Qv (fun _ => False) (pB D (va_pl L f) s.heap.size) (va_A (va_pl L f) s.heap.size)) (xX D (va_pl L f) s.heap.size (fun E u => E = "java/lang/IndexOutOfBoundsException" ∧ u = va_pl L f)) ([.ref (gA g 0), .int (zI (z)), .int (zI (y))] : List Value).toArray s 1 6 (va_A (va_pl L f) s.heap.size) := ⟨_, rfl⟩
  rw [← hQ]
  obtain ⟨⟨a0, a1, a2, a3, a4⟩, aL, ao, aM, aE, aX⟩ := id hR
  have hn0 := hO.1
  have hc0 := hO.2.2.2.1
  refine lv_aload_n hx hb dX9_unmark_0 rfl (lv_at hl 0 rfl) ?_
  refine pl_get (ci := 8) (v := .ref (gA g 1)) (C := RX9) (T := TX9) (N := 3) hx hb hts hi_X9 hown hK hP (aL 0 (by decide)) a0 rfl 0 (by decide) hw_0 (fun _ h9 => h9) rfl dX9_unmark_1 ?_
  refine lv_iload_n hx hb dX9_unmark_4 rfl (lv_at hl 1 rfl) ?_
  refine va_csr (va_Run.run (va_runV (As := [.int (zI (z))]) (rest := []) ⟨hx, hb, hml, hown, hts⟩ (kX8_marksOf l D k L f (gA g 1) (gA g 2) (gA g 3) (sN S) (sT S) (aL 1 (by decide)) a1 (aL 2 (by decide)) a2 hn0 (fun j => gA g (5 + j)) (fun j => gA g (9 + j)) (gM g) (sR S) (aL 3 (by decide)) a3 (fun j hj => (aM j hj).1) (fun j hj => (aM j hj).2.1) (fun j hj => (aM j hj).2.2.1) (fun j hj => (aM j hj).2.2.2.1) (fun j hj => (aM j hj).2.2.2.2.1) (cR_inj hR) (cR_lm hR) z (by omega)) (cwV 1 hts gX9_unmark_X8_marksOf rfl rfl rfl (by decide +kernel) ⟨Nat.le_of_ble_eq_true rfl, Nat.le_of_ble_eq_true rfl⟩) (rc_preV hC hP (pl_recv hK hP (aL 1 (by decide)) a1 (ci := 7) (q := (RX8, TX8, 3)) rfl)) rfl rfl hl.1 rfl (lv_room (Nat.le_of_ble_eq_true rfl)) dX9_unmark_5 ⟨Nat.zero_le _, Nat.zero_le _⟩)) (fun r1 hr1 => ?_)
  subst hr1
  refine lv_astore_n (lv' := [(3, .ref (gA g (5 + z.toNat))), (0, .ref (gA g 0)), (1, .int (zI (z))), (2, .int (zI (y)))]) hx hb dX9_unmark_8 rfl hl (by decide) rfl (fun ls hl => ?_)
  refine lv_aload_n hx hb dX9_unmark_9 rfl (lv_at hl 0 rfl) ?_
  refine lv_iload_n hx hb dX9_unmark_10 rfl (lv_at hl 3 rfl) ?_
  refine vp_callSi (va_Run.run (va_runV (As := [.int (zI (y))]) (rest := []) ⟨hx, hb, hml, hown, hts⟩ (kX6_told l D k L f (gA g (5 + z.toNat)) (gA g (9 + z.toNat)) ((sR S z.toNat)) (aM z.toNat (by omega)).2.1 (aM z.toNat (by omega)).2.2.1 (aM z.toNat (by omega)).2.2.2.1 (aM z.toNat (by omega)).2.2.2.2.1 (y) (by omega)) (cwV 1 hts gX9_unmark_X6_told rfl rfl rfl (by decide +kernel) ⟨Nat.le_of_ble_eq_true rfl, Nat.le_of_ble_eq_true rfl⟩) (rc_preV hC hP (pl_recv hK hP (aM z.toNat (by omega)).2.1 (aM z.toNat (by omega)).2.2.1 (ci := 5) (q := (RX6, TX6, 1)) rfl)) rfl rfl hl.1 rfl (lv_room (Nat.le_of_ble_eq_true rfl)) dX9_unmark_11 ⟨Nat.zero_le _, Nat.zero_le _⟩)) (fun r2 hr2 => ?_)
  obtain rfl := told_n hr2 hq2
  refine lv_istore (lv' := [(4, .int (zI (-1))), (3, .ref (gA g (5 + z.toNat))), (0, .ref (gA g 0)), (1, .int (zI (z))), (2, .int (zI (y)))]) hx hb dX9_unmark_14 hl (by decide) rfl (fun ls hl => ?_)
  refine lv_iload hx hb dX9_unmark_16 (lv_at hl 0 rfl) ?_
  refine zr_if_ge (tgt := 31) hx hb dX9_unmark_18 (by decide) (by omega) (fun c3 => ?_) (fun c3 => ?_)
  · exact absurd c3 (by omega)
  · rw [hQ]
    exact px_throw (own := RX9) (cls := "java/lang/IndexOutOfBoundsException") (text := "no such marked region") (ik := 67) (is := 69) (ic := 71) hx hb hlt hown (by decide) hw_1 hw_2 (by decide) hX (px_hat hts hNW hX (by decide +kernel) (by decide +kernel) (by decide +kernel)) (by decide +kernel) hP (by rw [← hAd]; exact hD) (by rw [← hAd]; exact hS) (by rw [← hAd]; exact hAn) (hl.1.trans hml.symm) dX9_unmark_21 dX9_unmark_24 dX9_unmark_25 dX9_unmark_27 dX9_unmark_30 hno (Nat.le_of_ble_eq_true rfl) (Nat.le_of_ble_eq_true rfl) (Nat.le_of_ble_eq_true rfl) (Nat.le_of_ble_eq_true rfl) hlocks (Nat.le_of_ble_eq_true rfl) (Nat.le_of_ble_eq_true rfl) (⟨rfl, rfl⟩)

set_option maxHeartbeats 4000000 in
set_option maxRecDepth 100000 in
theorem kX9_requireRoom (l : Launch) (D : va_G) (k : Nat → ClassId) (L : List Nat) (f : Nat → va_E) (g : CG) (S : SA) (hR : cRep k L f g S) (hO : aOK S) (z : Int) (hz : -1000 ≤ z ∧ z ≤ 6) (hc : sC S < 30) (n0 sz : Nat) : Met l yX9_requireRoom wsX9_requireRoom ({ frames := 0, cells := 0, slots := 0, locals := 0 } : Room) (va_Pc [.ref (gA g 0), .int (zI (z))] (pPre D (tyL k) n0 (va_pl L f) sz)) (va_Qv (fun u => u = va_pl L f) (pB D (va_pl L f) sz) (va_A (va_pl L f) sz)) 0 0 (va_A (va_pl L f) sz) := by
  refine Met.ofW (cc := cX9_requireRoom) (maxL := 2) (ret := none) (by decide) rfl ?_
  intro p e s m args below meth c s₁ B hml hv
  obtain ⟨rfl, hsz, hn9, hP, hC, hD0⟩ := hv
  have hK := hC.1
  have hNW := hC.2.1
  have hx := B.exec
  have hb := B.bytes
  have hrt := B.returns
  have hts := atoms_spec (ws := wsX9_requireRoom) B.pre
  have hown : s.vm.findClass RX9 = some m.cls := findClass_of_methodNamed B.named
  have hlocks := B.notSynchronized
  subst hsz
  obtain ⟨A, hAd⟩ : ∃ A, A = va_A (va_pl L f) s.heap.size := ⟨_, rfl⟩
  have hD := hD0.self (sz := s.heap.size)
  rw [← hAd] at hD
  have hA : ∀ q : Nat, s.heap.size ≤ q → A q := fun q h => by rw [hAd]; exact Or.inr h
  have hAn : ∀ q : Nat, A q → n0 ≤ q := fun q h => by
    rw [hAd] at h
    rcases h with ⟨k9, e9, hk9⟩ | h
    · exact hD0.2 k9 _ hk9
    · exact Nat.le_trans hn9 h
  have hS : va_S A s.heap s.heap [] := va_S.rf
  have hi_X9 : ∀ w ∈ u_ws RX9 TX9 3, w ∈ wsX9_requireRoom := by decide +kernel
  have hw_0 := hts (.fieldLink RX9 22 "Regionry" "count" "I") (by decide +kernel)
  have hl := lv_entry ([.ref (gA g 0), .int (zI (z))]) (n := 2) (Nat.le_of_ble_eq_true rfl)
  rw [lg_entry_eq]
  generalize (lg_sl ([.ref (gA g 0), .int (zI (z))]) ++ List.replicate (2 - (lg_sl ([.ref (gA g 0), .int (zI (z))])).length) Slot.unset).toArray = ls at hl ⊢
  have hl : lv_has ls 2 [(0, .ref (gA g 0)), (1, .int (zI (z)))] := hl
  obtain ⟨Q, hQ⟩ : ∃ Q, Q = MQ below (va_Qv (fun u => u = va_pl L f) (pB D (va_pl L f) s.heap.size) (va_A (va_pl L f) s.heap.size)) ([.ref (gA g 0), .int (zI (z))] : List Value).toArray s 0 0 (va_A (va_pl L f) s.heap.size) := ⟨_, rfl⟩
  rw [← hQ]
  obtain ⟨⟨a0, a1, a2, a3, a4⟩, aL, ao, aM, aE, aX⟩ := id hR
  have hn0 := hO.1
  have hc0 := hO.2.2.2.1
  refine lv_aload_n hx hb dX9_requireRoom_0 rfl (lv_at hl 0 rfl) ?_
  refine pl_get (ci := 8) (v := .int (zI ((sC S : Int)))) (C := RX9) (T := TX9) (N := 3) hx hb hts hi_X9 hown hK hP (aL 0 (by decide)) a0 rfl 2 (by decide) hw_0 (fun _ h9 => h9) rfl dX9_requireRoom_1 ?_
  refine zr_bipush hx hb dX9_requireRoom_4 (by decide) ?_
  refine zr_icmp_lt (tgt := 19) hx hb dX9_requireRoom_6 (by decide) (by omega) (by omega) (fun c1 => ?_) (fun c1 => ?_)
  · refine lv_iload_n hx hb dX9_requireRoom_19 rfl (lv_at hl 1 rfl) ?_
    refine zr_bipush hx hb dX9_requireRoom_20 (by decide) ?_
    refine zr_icmp_le (tgt := 35) hx hb dX9_requireRoom_22 (by decide) (by omega) (by omega) (fun c2 => ?_) (fun c2 => ?_)
    · rw [hQ]
      exact pc_vret hx hb hrt hP (by rw [← hAd]; exact hD) (by rw [← hAd]; exact hS) (rfl) dX9_requireRoom_35 hlocks
    · exfalso; omega
  · exfalso; omega

set_option maxHeartbeats 4000000 in
set_option maxRecDepth 100000 in
theorem kX9_requireRoom_x (l : Launch) (D : va_G) (k : Nat → ClassId) (L : List Nat) (f : Nat → va_E) (g : CG) (S : SA) (hR : cRep k L f g S) (hO : aOK S) (z : Int) (hz : -1000 ≤ z ∧ z ≤ 1000) (hc : 30 ≤ sC S ∨ 6 < z) (hlt : l.stackTraces = false) (n0 sz : Nat) : vx_Met l yX9_requireRoom wsX9_requireRoom ({ frames := 6, cells := 1, slots := 6, locals := 82 } : Room) (va_Pc [.ref (gA g 0), .int (zI (z))] (xPre D (tyL k) n0 (va_pl L f) sz)) (va_Qv (fun _ => False) (pB D (va_pl L f) sz) (va_A (va_pl L f) sz)) (xX D (va_pl L f) sz (fun E u => E = "java/lang/IllegalStateException" ∧ u = va_pl L f)) 1 6 (va_A (va_pl L f) sz) := by
  refine vx_ofW (cc := cX9_requireRoom) (maxL := 2) (ret := none) (by decide) rfl ?_
  intro p e s m args below meth c s₁ B hml hno hv
  obtain ⟨rfl, ⟨hsz, hn9, hP, hC, hD0⟩, hX⟩ := hv
  have hK := hC.1
  have hNW := hC.2.1
  have hx := B.exec
  have hb := B.bytes
  have hrt := B.returns
  have hts := atoms_spec (ws := wsX9_requireRoom) B.pre
  have hown : s.vm.findClass RX9 = some m.cls := findClass_of_methodNamed B.named
  have hlocks := B.notSynchronized
  subst hsz
  obtain ⟨A, hAd⟩ : ∃ A, A = va_A (va_pl L f) s.heap.size := ⟨_, rfl⟩
  have hD := hD0.self (sz := s.heap.size)
  rw [← hAd] at hD
  have hA : ∀ q : Nat, s.heap.size ≤ q → A q := fun q h => by rw [hAd]; exact Or.inr h
  have hAn : ∀ q : Nat, A q → n0 ≤ q := fun q h => by
    rw [hAd] at h
    rcases h with ⟨k9, e9, hk9⟩ | h
    · exact hD0.2 k9 _ hk9
    · exact Nat.le_trans hn9 h
  have hS : va_S A s.heap s.heap [] := va_S.rf
  have hi_X9 : ∀ w ∈ u_ws RX9 TX9 3, w ∈ wsX9_requireRoom := by decide +kernel
  have hw_0 := hts (.fieldLink RX9 22 "Regionry" "count" "I") (by decide +kernel)
  have hw_1 := hts (.classLink RX9 150 "java/lang/IllegalStateException") (by decide +kernel)
  have hw_2 := hts (.initialized "java/lang/IllegalStateException") (by decide +kernel)
  have hl := lv_entry ([.ref (gA g 0), .int (zI (z))]) (n := 2) (Nat.le_of_ble_eq_true rfl)
  rw [lg_entry_eq]
  generalize (lg_sl ([.ref (gA g 0), .int (zI (z))]) ++ List.replicate (2 - (lg_sl ([.ref (gA g 0), .int (zI (z))])).length) Slot.unset).toArray = ls at hl ⊢
  have hl : lv_has ls 2 [(0, .ref (gA g 0)), (1, .int (zI (z)))] := hl
  obtain ⟨Q, hQ⟩ : ∃ Q, Q = vx_MQ below (va_Qv (fun _ => False) (pB D (va_pl L f) s.heap.size) (va_A (va_pl L f) s.heap.size)) (xX D (va_pl L f) s.heap.size (fun E u => E = "java/lang/IllegalStateException" ∧ u = va_pl L f)) ([.ref (gA g 0), .int (zI (z))] : List Value).toArray s 1 6 (va_A (va_pl L f) s.heap.size) := ⟨_, rfl⟩
  rw [← hQ]
  obtain ⟨⟨a0, a1, a2, a3, a4⟩, aL, ao, aM, aE, aX⟩ := id hR
  have hn0 := hO.1
  have hc0 := hO.2.2.2.1
  refine lv_aload_n hx hb dX9_requireRoom_0 rfl (lv_at hl 0 rfl) ?_
  refine pl_get (ci := 8) (v := .int (zI ((sC S : Int)))) (C := RX9) (T := TX9) (N := 3) hx hb hts hi_X9 hown hK hP (aL 0 (by decide)) a0 rfl 2 (by decide) hw_0 (fun _ h9 => h9) rfl dX9_requireRoom_1 ?_
  refine zr_bipush hx hb dX9_requireRoom_4 (by decide) ?_
  refine zr_icmp_lt (tgt := 19) hx hb dX9_requireRoom_6 (by decide) (by omega) (by omega) (fun c1 => ?_) (fun c1 => ?_)
  · refine lv_iload_n hx hb dX9_requireRoom_19 rfl (lv_at hl 1 rfl) ?_
    refine zr_bipush hx hb dX9_requireRoom_20 (by decide) ?_
    refine zr_icmp_le (tgt := 35) hx hb dX9_requireRoom_22 (by decide) (by omega) (by omega) (fun c2 => ?_) (fun c2 => ?_)
    · exfalso; omega
    · rw [hQ]
      exact px_throw (own := RX9) (cls := "java/lang/IllegalStateException") (text := "too deep") (ik := 150) (is := 155) (ic := 154) hx hb hlt hown (by decide) hw_1 hw_2 (by decide) hX (px_hat hts hNW hX (by decide +kernel) (by decide +kernel) (by decide +kernel)) (by decide +kernel) hP (by rw [← hAd]; exact hD) (by rw [← hAd]; exact hS) (by rw [← hAd]; exact hAn) (hl.1.trans hml.symm) dX9_requireRoom_25 dX9_requireRoom_28 dX9_requireRoom_29 dX9_requireRoom_31 dX9_requireRoom_34 hno (Nat.le_of_ble_eq_true rfl) (Nat.le_of_ble_eq_true rfl) (Nat.le_of_ble_eq_true rfl) (Nat.le_of_ble_eq_true rfl) hlocks (Nat.le_of_ble_eq_true rfl) (Nat.le_of_ble_eq_true rfl) (⟨rfl, rfl⟩)
  · rw [hQ]
    exact px_throw (own := RX9) (cls := "java/lang/IllegalStateException") (text := "no room for another node") (ik := 150) (is := 152) (ic := 154) hx hb hlt hown (by decide) hw_1 hw_2 (by decide) hX (px_hat hts hNW hX (by decide +kernel) (by decide +kernel) (by decide +kernel)) (by decide +kernel) hP (by rw [← hAd]; exact hD) (by rw [← hAd]; exact hS) (by rw [← hAd]; exact hAn) (hl.1.trans hml.symm) dX9_requireRoom_9 dX9_requireRoom_12 dX9_requireRoom_13 dX9_requireRoom_15 dX9_requireRoom_18 hno (Nat.le_of_ble_eq_true rfl) (Nat.le_of_ble_eq_true rfl) (Nat.le_of_ble_eq_true rfl) (Nat.le_of_ble_eq_true rfl) hlocks (Nat.le_of_ble_eq_true rfl) (Nat.le_of_ble_eq_true rfl) (⟨rfl, rfl⟩)

set_option maxHeartbeats 4000000 in
set_option maxRecDepth 100000 in
theorem kX9_expressionOf (l : Launch) (D : va_G) (k : Nat → ClassId) (L : List Nat) (f : Nat → va_E) (g : CG) (S : SA) (hR : cRep k L f g S) (hO : aOK S) (i : Nat) (hi : i < sC S) : Met l yX9_expressionOf wsX9_expressionOf ({ frames := 0, cells := 0, slots := 0, locals := 0 } : Room) (va_Pc [.ref (gA g 0), .int (zI ((i : Int)))] (rPre D (tyL k) (va_pl L f))) (va_Sr (fun r9 => r9 = gN g 0 i) (fun k => .ref k)) 0 0 (fun _ => False) := by
  refine Met.ofW (cc := cX9_expressionOf) (maxL := 2) (ret := (some (.object "Regionry$Expression"))) (by decide) rfl ?_
  intro p e s m args below meth c s₁ B hml hv
  obtain ⟨rfl, hP, hC⟩ := hv
  have hK := hC.1
  have hNW := hC.2.1
  have hx := B.exec
  have hb := B.bytes
  have hrt := B.returns
  have hts := atoms_spec (ws := wsX9_expressionOf) B.pre
  have hown : s.vm.findClass RX9 = some m.cls := findClass_of_methodNamed B.named
  have hlocks := B.notSynchronized
  have hi_X9 : ∀ w ∈ u_ws RX9 TX9 3, w ∈ wsX9_expressionOf := by decide +kernel
  have hw_0 := hts (.fieldLink RX9 18 "Regionry" "made" "[LRegionry$Expression;") (by decide +kernel)
  have hl := lv_entry ([.ref (gA g 0), .int (zI ((i : Int)))]) (n := 2) (Nat.le_of_ble_eq_true rfl)
  rw [lg_entry_eq]
  generalize (lg_sl ([.ref (gA g 0), .int (zI ((i : Int)))]) ++ List.replicate (2 - (lg_sl ([.ref (gA g 0), .int (zI ((i : Int)))])).length) Slot.unset).toArray = ls at hl ⊢
  have hl : lv_has ls 2 [(0, .ref (gA g 0)), (1, .int (zI ((i : Int))))] := hl
  obtain ⟨Q, hQ⟩ : ∃ Q, Q = MQ below (va_Sr (fun r9 => r9 = gN g 0 i) (fun k => .ref k)) ([.ref (gA g 0), .int (zI ((i : Int)))] : List Value).toArray s 0 0 (fun _ => False) := ⟨_, rfl⟩
  rw [← hQ]
  obtain ⟨⟨a0, a1, a2, a3, a4⟩, aL, ao, aM, aE, aX⟩ := id hR
  have hn0 := hO.1
  have hc0 := hO.2.2.2.1
  refine lv_iload_n hx hb dX9_expressionOf_0 rfl (lv_at hl 1 rfl) ?_
  refine zr_if_lt (tgt := 19) hx hb dX9_expressionOf_1 (by decide) (by omega) (fun c1 => ?_) (fun c1 => ?_)
  · exfalso; omega
  · refine lv_iload_n hx hb dX9_expressionOf_4 rfl (lv_at hl 1 rfl) ?_
    refine zr_bipush hx hb dX9_expressionOf_5 (by decide) ?_
    refine zr_icmp_ge (tgt := 19) hx hb dX9_expressionOf_7 (by decide) (by omega) (by omega) (fun c2 => ?_) (fun c2 => ?_)
    · exfalso; omega
    · refine lv_aload_n hx hb dX9_expressionOf_10 rfl (lv_at hl 0 rfl) ?_
      refine pl_get (ci := 8) (v := .ref (gA g 4)) (C := RX9) (T := TX9) (N := 3) hx hb hts hi_X9 hown hK hP (aL 0 (by decide)) a0 rfl 1 (by decide) hw_0 (fun _ h9 => h9) rfl dX9_expressionOf_11 ?_
      refine lv_iload_n hx hb dX9_expressionOf_14 rfl (lv_at hl 1 rfl) ?_
      refine pl_aldq hx hb hK hP (aL 4 (by decide)) 2 a4 rfl (i) (by omega) (by omega) (by decide) dX9_expressionOf_15 ?_
      rw [(aE i hi).1]
      refine lv_ifnonnull (tgt := 29) hx hb dX9_expressionOf_16 (by decide) ?_
      refine lv_aload_n hx hb dX9_expressionOf_29 rfl (lv_at hl 0 rfl) ?_
      refine pl_get (ci := 8) (v := .ref (gA g 4)) (C := RX9) (T := TX9) (N := 3) hx hb hts hi_X9 hown hK hP (aL 0 (by decide)) a0 rfl 1 (by decide) hw_0 (fun _ h9 => h9) rfl dX9_expressionOf_30 ?_
      refine lv_iload_n hx hb dX9_expressionOf_33 rfl (lv_at hl 1 rfl) ?_
      refine pl_aldq hx hb hK hP (aL 4 (by decide)) 2 a4 rfl (i) (by omega) (by omega) (by decide) dX9_expressionOf_34 ?_
      rw [(aE i hi).1]
      rw [hQ]
      exact rc_aret hx hb hrt (rfl) dX9_expressionOf_35 hlocks

set_option maxHeartbeats 4000000 in
set_option maxRecDepth 100000 in
theorem kX9_expressionOf_x (l : Launch) (D : va_G) (k : Nat → ClassId) (L : List Nat) (f : Nat → va_E) (g : CG) (S : SA) (hR : cRep k L f g S) (hO : aOK S) (z : Int) (hz : -2147483648 ≤ z ∧ z < 2147483648) (hz2 : ¬ (0 ≤ z ∧ z < (sC S : Int))) (hlt : l.stackTraces = false) (n0 sz : Nat) : vx_Met l yX9_expressionOf wsX9_expressionOf ({ frames := 6, cells := 1, slots := 6, locals := 82 } : Room) (va_Pc [.ref (gA g 0), .int (zI (z))] (xPre D (tyL k) n0 (va_pl L f) sz)) (va_Qv (fun _ => False) (pB D (va_pl L f) sz) (va_A (va_pl L f) sz)) (xX D (va_pl L f) sz (fun E u => E = "java/lang/IndexOutOfBoundsException" ∧ u = va_pl L f)) 1 6 (va_A (va_pl L f) sz) := by
  refine vx_ofW (cc := cX9_expressionOf) (maxL := 2) (ret := (some (.object "Regionry$Expression"))) (by decide) rfl ?_
  intro p e s m args below meth c s₁ B hml hno hv
  obtain ⟨rfl, ⟨hsz, hn9, hP, hC, hD0⟩, hX⟩ := hv
  have hK := hC.1
  have hNW := hC.2.1
  have hx := B.exec
  have hb := B.bytes
  have hrt := B.returns
  have hts := atoms_spec (ws := wsX9_expressionOf) B.pre
  have hown : s.vm.findClass RX9 = some m.cls := findClass_of_methodNamed B.named
  have hlocks := B.notSynchronized
  subst hsz
  obtain ⟨A, hAd⟩ : ∃ A, A = va_A (va_pl L f) s.heap.size := ⟨_, rfl⟩
  have hD := hD0.self (sz := s.heap.size)
  rw [← hAd] at hD
  have hA : ∀ q : Nat, s.heap.size ≤ q → A q := fun q h => by rw [hAd]; exact Or.inr h
  have hAn : ∀ q : Nat, A q → n0 ≤ q := fun q h => by
    rw [hAd] at h
    rcases h with ⟨k9, e9, hk9⟩ | h
    · exact hD0.2 k9 _ hk9
    · exact Nat.le_trans hn9 h
  have hS : va_S A s.heap s.heap [] := va_S.rf
  have hi_X9 : ∀ w ∈ u_ws RX9 TX9 3, w ∈ wsX9_expressionOf := by decide +kernel
  have hw_0 := hts (.classLink RX9 67 "java/lang/IndexOutOfBoundsException") (by decide +kernel)
  have hw_1 := hts (.initialized "java/lang/IndexOutOfBoundsException") (by decide +kernel)
  have hw_2 := hts (.fieldLink RX9 18 "Regionry" "made" "[LRegionry$Expression;") (by decide +kernel)
  have hl := lv_entry ([.ref (gA g 0), .int (zI (z))]) (n := 2) (Nat.le_of_ble_eq_true rfl)
  rw [lg_entry_eq]
  generalize (lg_sl ([.ref (gA g 0), .int (zI (z))]) ++ List.replicate (2 - (lg_sl ([.ref (gA g 0), .int (zI (z))])).length) Slot.unset).toArray = ls at hl ⊢
  have hl : lv_has ls 2 [(0, .ref (gA g 0)), (1, .int (zI (z)))] := hl
  obtain ⟨Q, hQ⟩ : ∃ Q, Q = vx_MQ below (va_Qv (fun _ => False) (pB D (va_pl L f) s.heap.size) (va_A (va_pl L f) s.heap.size)) (xX D (va_pl L f) s.heap.size (fun E u => E = "java/lang/IndexOutOfBoundsException" ∧ u = va_pl L f)) ([.ref (gA g 0), .int (zI (z))] : List Value).toArray s 1 6 (va_A (va_pl L f) s.heap.size) := ⟨_, rfl⟩
  rw [← hQ]
  obtain ⟨⟨a0, a1, a2, a3, a4⟩, aL, ao, aM, aE, aX⟩ := id hR
  have hn0 := hO.1
  have hc0 := hO.2.2.2.1
  refine lv_iload_n hx hb dX9_expressionOf_0 rfl (lv_at hl 1 rfl) ?_
  refine zr_if_lt (tgt := 19) hx hb dX9_expressionOf_1 (by decide) (by omega) (fun c1 => ?_) (fun c1 => ?_)
  · rw [hQ]
    exact px_throw (own := RX9) (cls := "java/lang/IndexOutOfBoundsException") (text := "no such node") (ik := 67) (is := 148) (ic := 71) hx hb hlt hown (by decide) hw_0 hw_1 (by decide) hX (px_hat hts hNW hX (by decide +kernel) (by decide +kernel) (by decide +kernel)) (by decide +kernel) hP (by rw [← hAd]; exact hD) (by rw [← hAd]; exact hS) (by rw [← hAd]; exact hAn) (hl.1.trans hml.symm) dX9_expressionOf_19 dX9_expressionOf_22 dX9_expressionOf_23 dX9_expressionOf_25 dX9_expressionOf_28 hno (Nat.le_of_ble_eq_true rfl) (Nat.le_of_ble_eq_true rfl) (Nat.le_of_ble_eq_true rfl) (Nat.le_of_ble_eq_true rfl) hlocks (Nat.le_of_ble_eq_true rfl) (Nat.le_of_ble_eq_true rfl) (⟨rfl, rfl⟩)
  · refine lv_iload_n hx hb dX9_expressionOf_4 rfl (lv_at hl 1 rfl) ?_
    refine zr_bipush hx hb dX9_expressionOf_5 (by decide) ?_
    refine zr_icmp_ge (tgt := 19) hx hb dX9_expressionOf_7 (by decide) (by omega) (by omega) (fun c2 => ?_) (fun c2 => ?_)
    · rw [hQ]
      exact px_throw (own := RX9) (cls := "java/lang/IndexOutOfBoundsException") (text := "no such node") (ik := 67) (is := 148) (ic := 71) hx hb hlt hown (by decide) hw_0 hw_1 (by decide) hX (px_hat hts hNW hX (by decide +kernel) (by decide +kernel) (by decide +kernel)) (by decide +kernel) hP (by rw [← hAd]; exact hD) (by rw [← hAd]; exact hS) (by rw [← hAd]; exact hAn) (hl.1.trans hml.symm) dX9_expressionOf_19 dX9_expressionOf_22 dX9_expressionOf_23 dX9_expressionOf_25 dX9_expressionOf_28 hno (Nat.le_of_ble_eq_true rfl) (Nat.le_of_ble_eq_true rfl) (Nat.le_of_ble_eq_true rfl) (Nat.le_of_ble_eq_true rfl) hlocks (Nat.le_of_ble_eq_true rfl) (Nat.le_of_ble_eq_true rfl) (⟨rfl, rfl⟩)
    · refine lv_aload_n hx hb dX9_expressionOf_10 rfl (lv_at hl 0 rfl) ?_
      refine pl_get (ci := 8) (v := .ref (gA g 4)) (C := RX9) (T := TX9) (N := 3) hx hb hts hi_X9 hown hK hP (aL 0 (by decide)) a0 rfl 1 (by decide) hw_2 (fun _ h9 => h9) rfl dX9_expressionOf_11 ?_
      refine lv_iload_n hx hb dX9_expressionOf_14 rfl (lv_at hl 1 rfl) ?_
      refine pl_aldq hx hb hK hP (aL 4 (by decide)) 2 a4 rfl ((z).toNat) (by omega) (by omega) (by decide) dX9_expressionOf_15 ?_
      rw [aX z.toNat (by omega) (by omega)]
      refine lv_ifnonnullN hx hb dX9_expressionOf_16 ?_
      rw [hQ]
      exact px_throw (own := RX9) (cls := "java/lang/IndexOutOfBoundsException") (text := "no such node") (ik := 67) (is := 148) (ic := 71) hx hb hlt hown (by decide) hw_0 hw_1 (by decide) hX (px_hat hts hNW hX (by decide +kernel) (by decide +kernel) (by decide +kernel)) (by decide +kernel) hP (by rw [← hAd]; exact hD) (by rw [← hAd]; exact hS) (by rw [← hAd]; exact hAn) (hl.1.trans hml.symm) dX9_expressionOf_19 dX9_expressionOf_22 dX9_expressionOf_23 dX9_expressionOf_25 dX9_expressionOf_28 hno (Nat.le_of_ble_eq_true rfl) (Nat.le_of_ble_eq_true rfl) (Nat.le_of_ble_eq_true rfl) (Nat.le_of_ble_eq_true rfl) hlocks (Nat.le_of_ble_eq_true rfl) (Nat.le_of_ble_eq_true rfl) (⟨rfl, rfl⟩)

set_option maxHeartbeats 4000000 in
set_option maxRecDepth 100000 in
theorem kX9_keep (l : Launch) (D : va_G) (k : Nat → ClassId) (L : List Nat) (f : Nat → va_E) (x9 tx e9 o n7 gs as : Nat) (E : Nat → Option Nat) (d nd : Int32) (hx9 : x9 ∈ L) (hfx : f x9 = .inr (8, [.ref tx, .ref e9, .int (zI (n7 : Int))])) (he9 : e9 ∈ L) (hfe : f e9 = .inl (k 2, 30, .inr (.inr (.inr (.inr E))))) (hc : n7 < 30) (ho : o ∈ L) (hxo : exAt f o d nd gs as) (n0 sz : Nat) : Met l yX9_keep wsX9_keep ({ frames := 0, cells := 0, slots := 0, locals := 0 } : Room) (va_Pc [.ref x9, .ref o] (pPre D (tyL k) n0 (va_pl L f) sz)) (va_Qi (fun r9 u => r9 = zI (n7 : Int) ∧ u = va_pl L (va_up (va_up f e9 (.inl (k 2, 30, .inr (.inr (.inr (.inr (va_up E n7 (some o)))))))) x9 (.inr (8, [.ref tx, .ref e9, .int (zI ((n7 : Int) + 1))])))) (pB D (va_pl L f) sz) (va_A (va_pl L f) sz)) 0 0 (va_A (va_pl L f) sz) := by
  refine Met.ofW (cc := cX9_keep) (maxL := 3) (ret := (some .int)) (by decide) rfl ?_
  intro p e s m args below meth c s₁ B hml hv
  obtain ⟨rfl, hsz, hn9, hP, hC, hD0⟩ := hv
  have hK := hC.1
  have hNW := hC.2.1
  have hx := B.exec
  have hb := B.bytes
  have hrt := B.returns
  have hts := atoms_spec (ws := wsX9_keep) B.pre
  have hown : s.vm.findClass RX9 = some m.cls := findClass_of_methodNamed B.named
  have hlocks := B.notSynchronized
  subst hsz
  obtain ⟨A, hAd⟩ : ∃ A, A = va_A (va_pl L f) s.heap.size := ⟨_, rfl⟩
  have hD := hD0.self (sz := s.heap.size)
  rw [← hAd] at hD
  have hA : ∀ q : Nat, s.heap.size ≤ q → A q := fun q h => by rw [hAd]; exact Or.inr h
  have hAn : ∀ q : Nat, A q → n0 ≤ q := fun q h => by
    rw [hAd] at h
    rcases h with ⟨k9, e9, hk9⟩ | h
    · exact hD0.2 k9 _ hk9
    · exact Nat.le_trans hn9 h
  have hS : va_S A s.heap s.heap [] := va_S.rf
  have hi_X9 : ∀ w ∈ u_ws RX9 TX9 3, w ∈ wsX9_keep := by decide +kernel
  have hw_0 := hts (.fieldLink RX9 22 "Regionry" "count" "I") (by decide +kernel)
  have hw_1 := hts (.fieldLink RX9 18 "Regionry" "made" "[LRegionry$Expression;") (by decide +kernel)
  have hl := lv_entry ([.ref x9, .ref o]) (n := 3) (Nat.le_of_ble_eq_true rfl)
  rw [lg_entry_eq]
  generalize (lg_sl ([.ref x9, .ref o]) ++ List.replicate (3 - (lg_sl ([.ref x9, .ref o])).length) Slot.unset).toArray = ls at hl ⊢
  have hl : lv_has ls 3 [(0, .ref x9), (1, .ref o)] := hl
  obtain ⟨Q, hQ⟩ : ∃ Q, Q = MQ below (va_Qi (fun r9 u => r9 = zI (n7 : Int) ∧ u = va_pl L (va_up (va_up f e9 (.inl (k 2, 30, .inr (.inr (.inr (.inr (va_up E n7 (some o)))))))) x9 (.inr (8, [.ref tx, .ref e9, .int (zI ((n7 : Int) + 1))])))) (pB D (va_pl L f) s.heap.size) (va_A (va_pl L f) s.heap.size)) ([.ref x9, .ref o] : List Value).toArray s 0 0 (va_A (va_pl L f) s.heap.size) := ⟨_, rfl⟩
  rw [← hQ]
  refine lv_aload_n hx hb dX9_keep_0 rfl (lv_at hl 0 rfl) ?_
  refine pl_get (ci := 8) (v := .int (zI ((n7 : Int)))) (C := RX9) (T := TX9) (N := 3) hx hb hts hi_X9 hown hK hP hx9 hfx rfl 2 (by decide) hw_0 (fun _ h9 => h9) rfl dX9_keep_1 ?_
  refine lv_istore_n (lv' := [(2, .int (zI ((n7 : Int)))), (0, .ref x9), (1, .ref o)]) hx hb dX9_keep_4 rfl hl (by decide) rfl (fun ls hl => ?_)
  refine lv_iload_n hx hb dX9_keep_5 rfl (lv_at hl 0 rfl) ?_
  refine zr_if_lt (tgt := 29) hx hb dX9_keep_6 (by decide) (by omega) (fun c1 => ?_) (fun c1 => ?_)
  · refine lv_iload_n hx hb dX9_keep_29 rfl (lv_at hl 0 rfl) ?_
    rw [hQ]
    exact pc_iret hx hb hrt hP (by rw [← hAd]; exact hD) (by rw [← hAd]; exact hS) (by first | exact ⟨rfl, rfl⟩ | (exfalso; omega)) dX9_keep_30 hlocks
  · refine lv_iload_n hx hb dX9_keep_9 rfl (lv_at hl 0 rfl) ?_
    refine zr_bipush hx hb dX9_keep_10 (by decide) ?_
    refine zr_icmp_ge (tgt := 29) hx hb dX9_keep_12 (by decide) (by omega) (by omega) (fun c2 => ?_) (fun c2 => ?_)
    · refine lv_iload_n hx hb dX9_keep_29 rfl (lv_at hl 0 rfl) ?_
      rw [hQ]
      exact pc_iret hx hb hrt hP (by rw [← hAd]; exact hD) (by rw [← hAd]; exact hS) (by first | exact ⟨rfl, rfl⟩ | (exfalso; omega)) dX9_keep_30 hlocks
    · refine lv_aload_n hx hb dX9_keep_15 rfl (lv_at hl 1 rfl) ?_
      refine pl_get (ci := 8) (v := .ref e9) (C := RX9) (T := TX9) (N := 3) hx hb hts hi_X9 hown hK hP hx9 hfx rfl 1 (by decide) hw_1 (fun _ h9 => h9) rfl dX9_keep_16 ?_
      refine lv_iload_n hx hb dX9_keep_19 rfl (lv_at hl 0 rfl) ?_
      refine lv_aload_n hx hb dX9_keep_20 rfl (lv_at hl 2 rfl) ?_
      refine pl_astqE hx hb hNW hK hP hD hS he9 2 hfe rfl ho hxo (n7) (by omega) (by omega) (by decide) dX9_keep_21 (fun H locs hP hD hS => ?_)
      have hP : va_P D vwCl (va_pl L (va_up f e9 (.inl (k 2, 30, .inr (.inr (.inr (.inr (va_up E (n7) (some o))))))))) H := hP
      have hD : va_D A (va_pl L (va_up f e9 (.inl (k 2, 30, .inr (.inr (.inr (.inr (va_up E (n7) (some o))))))))) := hD
      refine lv_aload_n hx hb dX9_keep_22 rfl (lv_at hl 1 rfl) ?_
      refine lv_iload_n hx hb dX9_keep_23 rfl (lv_at hl 0 rfl) ?_
      refine zr_const hx hb dX9_keep_24 ?_
      refine zr_add hx hb dX9_keep_25 ?_
      refine pl_put (ci := 8) (v := .int (zI (((n7 : Int)) + 1))) (ty := .int) (C := RX9) (T := TX9) (N := 3) hx hb hts hi_X9 tyX9 tyX9_ok nmX9 hown hK hP hD hS hx9 ((va_up_ne _ _ (ne_k hfx hfe (by simp))).trans hfx) rfl 2 (by decide) hw_0 (fun _ h9 => h9) rfl (by decide +kernel) rfl rfl (Nat.le_of_ble_eq_true rfl) dX9_keep_26 (fun H locs hP hD hS => ?_)
      have hP : va_P D vwCl (va_pl L (va_up (va_up f e9 (.inl (k 2, 30, .inr (.inr (.inr (.inr (va_up E (n7) (some o)))))))) x9 (.inr (8, [.ref tx, .ref e9, .int (zI (((n7 : Int)) + 1))])))) H := hP
      have hD : va_D A (va_pl L (va_up (va_up f e9 (.inl (k 2, 30, .inr (.inr (.inr (.inr (va_up E (n7) (some o)))))))) x9 (.inr (8, [.ref tx, .ref e9, .int (zI (((n7 : Int)) + 1))])))) := hD
      refine lv_iload_n hx hb dX9_keep_29 rfl (lv_at hl 0 rfl) ?_
      rw [hQ]
      exact pc_iret hx hb hrt hP (by rw [← hAd]; exact hD) (by rw [← hAd]; exact hS) (by first | exact ⟨rfl, rfl⟩ | (exfalso; omega)) dX9_keep_30 hlocks
