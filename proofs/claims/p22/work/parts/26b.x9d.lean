set_option maxHeartbeats 4000000 in
set_option maxRecDepth 100000 in
theorem kX9_regions (l : Launch) (D : va_G) (k : Nat → ClassId) (L : List Nat) (f : Nat → va_E) (g : CG) (S : SA) (hR : cRep k L f g S) (hO : aOK S) (i : Nat) (hi : i < sC S) (n0 sz : Nat) : Met l yX9_regions wsX9_regions ({ frames := 5, cells := 0, slots := 0, locals := 113 } : Room) (va_Pc [.ref (gA g 0), .int (zI ((i : Int)))] (pPre D (tyL k) n0 (va_pl L f) sz)) (va_Qi (fun r9 u => r9 = zI ((sizeR (gatN S (gD g i) (gR g 2) 30 i) : Nat) : Int) ∧ ∃ F : Nat → va_E, u = va_pl L F ∧ cRep k L F (setRw g 2 (gatN S (gD g i) (gR g 2) 30)) S) (pB D (va_pl L f) sz) (va_A (va_pl L f) sz)) 0 0 (va_A (va_pl L f) sz) := by
  refine Met.ofW (cc := cX9_regions) (maxL := 2) (ret := (some .int)) (by decide) rfl ?_
  intro p e s m args below meth c s₁ B hml hv
  obtain ⟨rfl, hsz, hn9, hP, hC, hD0⟩ := hv
  have hK := hC.1
  have hNW := hC.2.1
  have hx := B.exec
  have hb := B.bytes
  have hrt := B.returns
  have hts := atoms_spec (ws := wsX9_regions) B.pre
  have hown : s.vm.findClass RX9 = some m.cls := findClass_of_methodNamed B.named
  have hlocks := B.notSynchronized
  subst hsz
  obtain ⟨A, hAd⟩ : ∃ A, A = va_A (va_pl L f) s.heap.size := ⟨_, rfl⟩
  have hD := hD0.self (sz := s.heap.size)
  rw [← hAd] at hD
  have hA : ∀ q : Nat, s.heap.size ≤ q → A q := fun q h => by rw [hAd]; exact Or.inr h
  have hAn : ∀ q : Nat, A q → n0 ≤ q := fun q h => by
    rw [hAd] at h
    rcases h with ⟨k9, e9, hk9⟩ | h
    · exact hD0.2 k9 _ hk9
    · exact Nat.le_trans hn9 h
  have hS : va_S A s.heap s.heap [] := va_S.rf
  have hl := lv_entry ([.ref (gA g 0), .int (zI ((i : Int)))]) (n := 2) (Nat.le_of_ble_eq_true rfl)
  rw [lg_entry_eq]
  generalize (lg_sl ([.ref (gA g 0), .int (zI ((i : Int)))]) ++ List.replicate (2 - (lg_sl ([.ref (gA g 0), .int (zI ((i : Int)))])).length) Slot.unset).toArray = ls at hl ⊢
  have hl : lv_has ls 2 [(0, .ref (gA g 0)), (1, .int (zI ((i : Int))))] := hl
  obtain ⟨Q, hQ⟩ : ∃ Q, Q = MQ below (va_Qi (fun r9 u => r9 = zI ((sizeR (gatN S (gD g i) (gR g 2) 30 i) : Nat) : Int) ∧ ∃ F : Nat → va_E, u = va_pl L F ∧ cRep k L F (setRw g 2 (gatN S (gD g i) (gR g 2) 30)) S) (pB D (va_pl L f) s.heap.size) (va_A (va_pl L f) s.heap.size)) ([.ref (gA g 0), .int (zI ((i : Int)))] : List Value).toArray s 0 0 (va_A (va_pl L f) s.heap.size) := ⟨_, rfl⟩
  rw [← hQ]
  obtain ⟨⟨a0, a1, a2, a3, a4⟩, aL, ao, aM, aE, aX⟩ := id hR
  have hn0 := hO.1
  have hc0 := hO.2.2.2.1
  refine lv_aload_n hx hb dX9_regions_0 rfl (lv_at hl 0 rfl) ?_
  refine lv_iload_n hx hb dX9_regions_1 rfl (lv_at hl 1 rfl) ?_
  refine pc_callr (va_runV (As := [.int (zI ((i : Int)))]) (rest := []) ⟨hx, hb, hml, hown, hts⟩ (kX9_gatheredOf l D k L f g S hR hO i hi n0 _) (cwV 1 hts gX9_regions_X9_gatheredOf rfl rfl rfl (by decide +kernel) ⟨Nat.le_of_ble_eq_true rfl, Nat.le_of_ble_eq_true rfl⟩) (pc_preV hC hP (Nat.le_trans hn9 hS.1) hD hAn (pl_recv hK hP (aL 0 (by decide)) a0 (ci := 8) (q := (RX9, TX9, 3)) rfl)) rfl rfl hl.1 rfl (lv_room (Nat.le_of_ble_eq_true rfl)) dX9_regions_2 ⟨Nat.zero_le _, Nat.zero_le _⟩) hD hS hA (fun ur1 r1 H locs hr1 hP hD hS hzr1 => ?_)
  obtain ⟨hv9, F, hw9, hF⟩ := hr1
  have hv9 : r1 = gN g 1 i := hv9
  have hw9 : ur1 = va_pl L F := hw9
  subst hv9
  subst hw9
  have hs9 : setAt k L F (gO g) (gN g 1 i) (gN g 2 i) (gatN S (gD g i) (gR g 2) 30 i) (5 + 3 * i) := hF.s2 hi
  refine vp_callSi (va_Run.run (va_runV (As := []) (rest := []) ⟨hx, hb, hml, hown, hts⟩ (kX6_size l D k L F (gN g 1 i) (gN g 2 i) ((gatN S (gD g i) (gR g 2) 30 i)) hs9.1 hs9.2.1 hs9.2.2.1 hs9.2.2.2.1 ) (cwV 0 hts gX9_regions_X6_size rfl rfl rfl (by decide +kernel) ⟨Nat.le_of_ble_eq_true rfl, Nat.le_of_ble_eq_true rfl⟩) (rc_preV hC hP (pl_recv hK hP hs9.1 hs9.2.1 (ci := 5) (q := (RX6, TX6, 1)) rfl)) rfl rfl hl.1 rfl (lv_room (Nat.le_of_ble_eq_true rfl)) dX9_regions_5 ⟨Nat.zero_le _, Nat.zero_le _⟩)) (fun r2 hr2 => ?_)
  subst hr2
  rw [hQ]
  exact pc_iret hx hb hrt hP (by rw [← hAd]; exact hD) (by rw [← hAd]; exact hS) (⟨rfl, F, rfl, hF⟩) dX9_regions_8 hlocks

set_option maxHeartbeats 4000000 in
set_option maxRecDepth 100000 in
theorem kX9_regions_x (l : Launch) (D : va_G) (k : Nat → ClassId) (L : List Nat) (f : Nat → va_E) (g : CG) (S : SA) (hR : cRep k L f g S) (hO : aOK S) (z : Int) (hz : -2147483648 ≤ z ∧ z < 2147483648) (hz2 : ¬ (0 ≤ z ∧ z < (sC S : Int))) (hlt : l.stackTraces = false) (n0 sz : Nat) : vx_Met l yX9_regions wsX9_regions ({ frames := 8, cells := 1, slots := 6, locals := 127 } : Room) (va_Pc [.ref (gA g 0), .int (zI (z))] (xPre D (tyL k) n0 (va_pl L f) sz)) (va_Qv (fun _ => False) (pB D (va_pl L f) sz) (va_A (va_pl L f) sz)) (xX D (va_pl L f) sz (fun E u => E = "java/lang/IndexOutOfBoundsException" ∧ u = va_pl L f)) 1 6 (va_A (va_pl L f) sz) := by
  refine vx_ofW (cc := cX9_regions) (maxL := 2) (ret := (some .int)) (by decide) rfl ?_
  intro p e s m args below meth c s₁ B hml hno hv
  obtain ⟨rfl, ⟨hsz, hn9, hP, hC, hD0⟩, hX⟩ := hv
  have hK := hC.1
  have hNW := hC.2.1
  have hx := B.exec
  have hb := B.bytes
  have hrt := B.returns
  have hts := atoms_spec (ws := wsX9_regions) B.pre
  have hown : s.vm.findClass RX9 = some m.cls := findClass_of_methodNamed B.named
  have hlocks := B.notSynchronized
  subst hsz
  obtain ⟨A, hAd⟩ : ∃ A, A = va_A (va_pl L f) s.heap.size := ⟨_, rfl⟩
  have hD := hD0.self (sz := s.heap.size)
  rw [← hAd] at hD
  have hA : ∀ q : Nat, s.heap.size ≤ q → A q := fun q h => by rw [hAd]; exact Or.inr h
  have hAn : ∀ q : Nat, A q → n0 ≤ q := fun q h => by
    rw [hAd] at h
    rcases h with ⟨k9, e9, hk9⟩ | h
    · exact hD0.2 k9 _ hk9
    · exact Nat.le_trans hn9 h
  have hS : va_S A s.heap s.heap [] := va_S.rf
  have hl := lv_entry ([.ref (gA g 0), .int (zI (z))]) (n := 2) (Nat.le_of_ble_eq_true rfl)
  rw [lg_entry_eq]
  generalize (lg_sl ([.ref (gA g 0), .int (zI (z))]) ++ List.replicate (2 - (lg_sl ([.ref (gA g 0), .int (zI (z))])).length) Slot.unset).toArray = ls at hl ⊢
  have hl : lv_has ls 2 [(0, .ref (gA g 0)), (1, .int (zI (z)))] := hl
  obtain ⟨Q, hQ⟩ : ∃ Q, Q = vx_MQ below (va_Qv (fun _ => False) (pB D (va_pl L f) s.heap.size) (va_A (va_pl L f) s.heap.size)) (xX D (va_pl L f) s.heap.size (fun E u => E = "java/lang/IndexOutOfBoundsException" ∧ u = va_pl L f)) ([.ref (gA g 0), .int (zI (z))] : List Value).toArray s 1 6 (va_A (va_pl L f) s.heap.size) := ⟨_, rfl⟩
  rw [← hQ]
  obtain ⟨⟨a0, a1, a2, a3, a4⟩, aL, ao, aM, aE, aX⟩ := id hR
  have hn0 := hO.1
  have hc0 := hO.2.2.2.1
  refine lv_aload_n hx hb dX9_regions_0 rfl (lv_at hl 0 rfl) ?_
  refine lv_iload_n hx hb dX9_regions_1 rfl (lv_at hl 1 rfl) ?_
  rw [hQ]
  exact px_outv (vx_runV (As := [.int (zI (z))]) (rest := []) ⟨hx, hb, hml, hown, hts⟩ (kX9_gatheredOf_x l D k L f g S hR hO z hz hz2 hlt n0 _) (cwV 1 hts gX9_regions_X9_gatheredOf rfl rfl rfl (by decide +kernel) ⟨Nat.le_of_ble_eq_true rfl, Nat.le_of_ble_eq_true rfl⟩) (xc_preV hC hX hP (Nat.le_trans hn9 hS.1) hD hS hAn (pl_recv hK hP (aL 0 (by decide)) a0 (ci := 8) (q := (RX9, TX9, 3)) rfl)) rfl rfl hl.1 rfl (lv_room (Nat.le_of_ble_eq_true rfl)) dX9_regions_2 ⟨Nat.le_of_ble_eq_true rfl, Nat.le_of_ble_eq_true rfl⟩) (by rw [← hAd]; exact hD) (by rw [← hAd]; exact hS) hlocks hno (Nat.le_of_ble_eq_true rfl) (Nat.le_of_ble_eq_true rfl) (fun E u h => h)

set_option maxHeartbeats 4000000 in
set_option maxRecDepth 100000 in
theorem kX9_covered (l : Launch) (D : va_G) (k : Nat → ClassId) (L : List Nat) (f : Nat → va_E) (g : CG) (S : SA) (hR : cRep k L f g S) (hO : aOK S) (i : Nat) (hi : i < sC S) (n0 sz : Nat) : Met l yX9_covered wsX9_covered ({ frames := 5, cells := 0, slots := 0, locals := 113 } : Room) (va_Pc [.ref (gA g 0), .int (zI ((i : Int)))] (pPre D (tyL k) n0 (va_pl L f) sz)) (va_Qi (fun r9 u => r9 = zI ((covN (gatN S (gD g i) (gR g 2) 30 i) : Nat) : Int) ∧ ∃ F : Nat → va_E, u = va_pl L F ∧ cRep k L F (setRw g 2 (gatN S (gD g i) (gR g 2) 30)) S) (pB D (va_pl L f) sz) (va_A (va_pl L f) sz)) 0 0 (va_A (va_pl L f) sz) := by
  refine Met.ofW (cc := cX9_covered) (maxL := 2) (ret := (some .int)) (by decide) rfl ?_
  intro p e s m args below meth c s₁ B hml hv
  obtain ⟨rfl, hsz, hn9, hP, hC, hD0⟩ := hv
  have hK := hC.1
  have hNW := hC.2.1
  have hx := B.exec
  have hb := B.bytes
  have hrt := B.returns
  have hts := atoms_spec (ws := wsX9_covered) B.pre
  have hown : s.vm.findClass RX9 = some m.cls := findClass_of_methodNamed B.named
  have hlocks := B.notSynchronized
  subst hsz
  obtain ⟨A, hAd⟩ : ∃ A, A = va_A (va_pl L f) s.heap.size := ⟨_, rfl⟩
  have hD := hD0.self (sz := s.heap.size)
  rw [← hAd] at hD
  have hA : ∀ q : Nat, s.heap.size ≤ q → A q := fun q h => by rw [hAd]; exact Or.inr h
  have hAn : ∀ q : Nat, A q → n0 ≤ q := fun q h => by
    rw [hAd] at h
    rcases h with ⟨k9, e9, hk9⟩ | h
    · exact hD0.2 k9 _ hk9
    · exact Nat.le_trans hn9 h
  have hS : va_S A s.heap s.heap [] := va_S.rf
  have hl := lv_entry ([.ref (gA g 0), .int (zI ((i : Int)))]) (n := 2) (Nat.le_of_ble_eq_true rfl)
  rw [lg_entry_eq]
  generalize (lg_sl ([.ref (gA g 0), .int (zI ((i : Int)))]) ++ List.replicate (2 - (lg_sl ([.ref (gA g 0), .int (zI ((i : Int)))])).length) Slot.unset).toArray = ls at hl ⊢
  have hl : lv_has ls 2 [(0, .ref (gA g 0)), (1, .int (zI ((i : Int))))] := hl
  obtain ⟨Q, hQ⟩ : ∃ Q, Q = MQ below (va_Qi (fun r9 u => r9 = zI ((covN (gatN S (gD g i) (gR g 2) 30 i) : Nat) : Int) ∧ ∃ F : Nat → va_E, u = va_pl L F ∧ cRep k L F (setRw g 2 (gatN S (gD g i) (gR g 2) 30)) S) (pB D (va_pl L f) s.heap.size) (va_A (va_pl L f) s.heap.size)) ([.ref (gA g 0), .int (zI ((i : Int)))] : List Value).toArray s 0 0 (va_A (va_pl L f) s.heap.size) := ⟨_, rfl⟩
  rw [← hQ]
  obtain ⟨⟨a0, a1, a2, a3, a4⟩, aL, ao, aM, aE, aX⟩ := id hR
  have hn0 := hO.1
  have hc0 := hO.2.2.2.1
  refine lv_aload_n hx hb dX9_covered_0 rfl (lv_at hl 0 rfl) ?_
  refine lv_iload_n hx hb dX9_covered_1 rfl (lv_at hl 1 rfl) ?_
  refine pc_callr (va_runV (As := [.int (zI ((i : Int)))]) (rest := []) ⟨hx, hb, hml, hown, hts⟩ (kX9_gatheredOf l D k L f g S hR hO i hi n0 _) (cwV 1 hts gX9_covered_X9_gatheredOf rfl rfl rfl (by decide +kernel) ⟨Nat.le_of_ble_eq_true rfl, Nat.le_of_ble_eq_true rfl⟩) (pc_preV hC hP (Nat.le_trans hn9 hS.1) hD hAn (pl_recv hK hP (aL 0 (by decide)) a0 (ci := 8) (q := (RX9, TX9, 3)) rfl)) rfl rfl hl.1 rfl (lv_room (Nat.le_of_ble_eq_true rfl)) dX9_covered_2 ⟨Nat.zero_le _, Nat.zero_le _⟩) hD hS hA (fun ur1 r1 H locs hr1 hP hD hS hzr1 => ?_)
  obtain ⟨hv9, F, hw9, hF⟩ := hr1
  have hv9 : r1 = gN g 1 i := hv9
  have hw9 : ur1 = va_pl L F := hw9
  subst hv9
  subst hw9
  have hs9 : setAt k L F (gO g) (gN g 1 i) (gN g 2 i) (gatN S (gD g i) (gR g 2) 30 i) (5 + 3 * i) := hF.s2 hi
  refine vp_callSi (va_Run.run (va_runV (As := []) (rest := []) ⟨hx, hb, hml, hown, hts⟩ (kX6_coveredPlaces l D k L F (gN g 1 i) (gN g 2 i) ((gatN S (gD g i) (gR g 2) 30 i)) hs9.1 hs9.2.1 hs9.2.2.1 hs9.2.2.2.1 ) (cwV 0 hts gX9_covered_X6_coveredPlaces rfl rfl rfl (by decide +kernel) ⟨Nat.le_of_ble_eq_true rfl, Nat.le_of_ble_eq_true rfl⟩) (rc_preV hC hP (pl_recv hK hP hs9.1 hs9.2.1 (ci := 5) (q := (RX6, TX6, 1)) rfl)) rfl rfl hl.1 rfl (lv_room (Nat.le_of_ble_eq_true rfl)) dX9_covered_5 ⟨Nat.zero_le _, Nat.zero_le _⟩)) (fun r2 hr2 => ?_)
  subst hr2
  rw [hQ]
  exact pc_iret hx hb hrt hP (by rw [← hAd]; exact hD) (by rw [← hAd]; exact hS) (⟨rfl, F, rfl, hF⟩) dX9_covered_8 hlocks

set_option maxHeartbeats 4000000 in
set_option maxRecDepth 100000 in
theorem kX9_covered_x (l : Launch) (D : va_G) (k : Nat → ClassId) (L : List Nat) (f : Nat → va_E) (g : CG) (S : SA) (hR : cRep k L f g S) (hO : aOK S) (z : Int) (hz : -2147483648 ≤ z ∧ z < 2147483648) (hz2 : ¬ (0 ≤ z ∧ z < (sC S : Int))) (hlt : l.stackTraces = false) (n0 sz : Nat) : vx_Met l yX9_covered wsX9_covered ({ frames := 8, cells := 1, slots := 6, locals := 127 } : Room) (va_Pc [.ref (gA g 0), .int (zI (z))] (xPre D (tyL k) n0 (va_pl L f) sz)) (va_Qv (fun _ => False) (pB D (va_pl L f) sz) (va_A (va_pl L f) sz)) (xX D (va_pl L f) sz (fun E u => E = "java/lang/IndexOutOfBoundsException" ∧ u = va_pl L f)) 1 6 (va_A (va_pl L f) sz) := by
  refine vx_ofW (cc := cX9_covered) (maxL := 2) (ret := (some .int)) (by decide) rfl ?_
  intro p e s m args below meth c s₁ B hml hno hv
  obtain ⟨rfl, ⟨hsz, hn9, hP, hC, hD0⟩, hX⟩ := hv
  have hK := hC.1
  have hNW := hC.2.1
  have hx := B.exec
  have hb := B.bytes
  have hrt := B.returns
  have hts := atoms_spec (ws := wsX9_covered) B.pre
  have hown : s.vm.findClass RX9 = some m.cls := findClass_of_methodNamed B.named
  have hlocks := B.notSynchronized
  subst hsz
  obtain ⟨A, hAd⟩ : ∃ A, A = va_A (va_pl L f) s.heap.size := ⟨_, rfl⟩
  have hD := hD0.self (sz := s.heap.size)
  rw [← hAd] at hD
  have hA : ∀ q : Nat, s.heap.size ≤ q → A q := fun q h => by rw [hAd]; exact Or.inr h
  have hAn : ∀ q : Nat, A q → n0 ≤ q := fun q h => by
    rw [hAd] at h
    rcases h with ⟨k9, e9, hk9⟩ | h
    · exact hD0.2 k9 _ hk9
    · exact Nat.le_trans hn9 h
  have hS : va_S A s.heap s.heap [] := va_S.rf
  have hl := lv_entry ([.ref (gA g 0), .int (zI (z))]) (n := 2) (Nat.le_of_ble_eq_true rfl)
  rw [lg_entry_eq]
  generalize (lg_sl ([.ref (gA g 0), .int (zI (z))]) ++ List.replicate (2 - (lg_sl ([.ref (gA g 0), .int (zI (z))])).length) Slot.unset).toArray = ls at hl ⊢
  have hl : lv_has ls 2 [(0, .ref (gA g 0)), (1, .int (zI (z)))] := hl
  obtain ⟨Q, hQ⟩ : ∃ Q, Q = vx_MQ below (va_Qv (fun _ => False) (pB D (va_pl L f) s.heap.size) (va_A (va_pl L f) s.heap.size)) (xX D (va_pl L f) s.heap.size (fun E u => E = "java/lang/IndexOutOfBoundsException" ∧ u = va_pl L f)) ([.ref (gA g 0), .int (zI (z))] : List Value).toArray s 1 6 (va_A (va_pl L f) s.heap.size) := ⟨_, rfl⟩
  rw [← hQ]
  obtain ⟨⟨a0, a1, a2, a3, a4⟩, aL, ao, aM, aE, aX⟩ := id hR
  have hn0 := hO.1
  have hc0 := hO.2.2.2.1
  refine lv_aload_n hx hb dX9_covered_0 rfl (lv_at hl 0 rfl) ?_
  refine lv_iload_n hx hb dX9_covered_1 rfl (lv_at hl 1 rfl) ?_
  rw [hQ]
  exact px_outv (vx_runV (As := [.int (zI (z))]) (rest := []) ⟨hx, hb, hml, hown, hts⟩ (kX9_gatheredOf_x l D k L f g S hR hO z hz hz2 hlt n0 _) (cwV 1 hts gX9_covered_X9_gatheredOf rfl rfl rfl (by decide +kernel) ⟨Nat.le_of_ble_eq_true rfl, Nat.le_of_ble_eq_true rfl⟩) (xc_preV hC hX hP (Nat.le_trans hn9 hS.1) hD hS hAn (pl_recv hK hP (aL 0 (by decide)) a0 (ci := 8) (q := (RX9, TX9, 3)) rfl)) rfl rfl hl.1 rfl (lv_room (Nat.le_of_ble_eq_true rfl)) dX9_covered_2 ⟨Nat.le_of_ble_eq_true rfl, Nat.le_of_ble_eq_true rfl⟩) (by rw [← hAd]; exact hD) (by rw [← hAd]; exact hS) hlocks hno (Nat.le_of_ble_eq_true rfl) (Nat.le_of_ble_eq_true rfl) (fun E u h => h)

set_option maxHeartbeats 4000000 in
set_option maxRecDepth 100000 in
theorem kX9_longest (l : Launch) (D : va_G) (k : Nat → ClassId) (L : List Nat) (f : Nat → va_E) (g : CG) (S : SA) (hR : cRep k L f g S) (hO : aOK S) (i : Nat) (hi : i < sC S) (n0 sz : Nat) : Met l yX9_longest wsX9_longest ({ frames := 5, cells := 0, slots := 0, locals := 113 } : Room) (va_Pc [.ref (gA g 0), .int (zI ((i : Int)))] (pPre D (tyL k) n0 (va_pl L f) sz)) (va_Qi (fun r9 u => r9 = zI (lonI (gatN S (gD g i) (gR g 2) 30 i)) ∧ ∃ F : Nat → va_E, u = va_pl L F ∧ cRep k L F (setRw g 2 (gatN S (gD g i) (gR g 2) 30)) S) (pB D (va_pl L f) sz) (va_A (va_pl L f) sz)) 0 0 (va_A (va_pl L f) sz) := by
  refine Met.ofW (cc := cX9_longest) (maxL := 2) (ret := (some .int)) (by decide) rfl ?_
  intro p e s m args below meth c s₁ B hml hv
  obtain ⟨rfl, hsz, hn9, hP, hC, hD0⟩ := hv
  have hK := hC.1
  have hNW := hC.2.1
  have hx := B.exec
  have hb := B.bytes
  have hrt := B.returns
  have hts := atoms_spec (ws := wsX9_longest) B.pre
  have hown : s.vm.findClass RX9 = some m.cls := findClass_of_methodNamed B.named
  have hlocks := B.notSynchronized
  subst hsz
  obtain ⟨A, hAd⟩ : ∃ A, A = va_A (va_pl L f) s.heap.size := ⟨_, rfl⟩
  have hD := hD0.self (sz := s.heap.size)
  rw [← hAd] at hD
  have hA : ∀ q : Nat, s.heap.size ≤ q → A q := fun q h => by rw [hAd]; exact Or.inr h
  have hAn : ∀ q : Nat, A q → n0 ≤ q := fun q h => by
    rw [hAd] at h
    rcases h with ⟨k9, e9, hk9⟩ | h
    · exact hD0.2 k9 _ hk9
    · exact Nat.le_trans hn9 h
  have hS : va_S A s.heap s.heap [] := va_S.rf
  have hl := lv_entry ([.ref (gA g 0), .int (zI ((i : Int)))]) (n := 2) (Nat.le_of_ble_eq_true rfl)
  rw [lg_entry_eq]
  generalize (lg_sl ([.ref (gA g 0), .int (zI ((i : Int)))]) ++ List.replicate (2 - (lg_sl ([.ref (gA g 0), .int (zI ((i : Int)))])).length) Slot.unset).toArray = ls at hl ⊢
  have hl : lv_has ls 2 [(0, .ref (gA g 0)), (1, .int (zI ((i : Int))))] := hl
  obtain ⟨Q, hQ⟩ : ∃ Q, Q = MQ below (va_Qi (fun r9 u => r9 = zI (lonI (gatN S (gD g i) (gR g 2) 30 i)) ∧ ∃ F : Nat → va_E, u = va_pl L F ∧ cRep k L F (setRw g 2 (gatN S (gD g i) (gR g 2) 30)) S) (pB D (va_pl L f) s.heap.size) (va_A (va_pl L f) s.heap.size)) ([.ref (gA g 0), .int (zI ((i : Int)))] : List Value).toArray s 0 0 (va_A (va_pl L f) s.heap.size) := ⟨_, rfl⟩
  rw [← hQ]
  obtain ⟨⟨a0, a1, a2, a3, a4⟩, aL, ao, aM, aE, aX⟩ := id hR
  have hn0 := hO.1
  have hc0 := hO.2.2.2.1
  refine lv_aload_n hx hb dX9_longest_0 rfl (lv_at hl 0 rfl) ?_
  refine lv_iload_n hx hb dX9_longest_1 rfl (lv_at hl 1 rfl) ?_
  refine pc_callr (va_runV (As := [.int (zI ((i : Int)))]) (rest := []) ⟨hx, hb, hml, hown, hts⟩ (kX9_gatheredOf l D k L f g S hR hO i hi n0 _) (cwV 1 hts gX9_longest_X9_gatheredOf rfl rfl rfl (by decide +kernel) ⟨Nat.le_of_ble_eq_true rfl, Nat.le_of_ble_eq_true rfl⟩) (pc_preV hC hP (Nat.le_trans hn9 hS.1) hD hAn (pl_recv hK hP (aL 0 (by decide)) a0 (ci := 8) (q := (RX9, TX9, 3)) rfl)) rfl rfl hl.1 rfl (lv_room (Nat.le_of_ble_eq_true rfl)) dX9_longest_2 ⟨Nat.zero_le _, Nat.zero_le _⟩) hD hS hA (fun ur1 r1 H locs hr1 hP hD hS hzr1 => ?_)
  obtain ⟨hv9, F, hw9, hF⟩ := hr1
  have hv9 : r1 = gN g 1 i := hv9
  have hw9 : ur1 = va_pl L F := hw9
  subst hv9
  subst hw9
  have hs9 : setAt k L F (gO g) (gN g 1 i) (gN g 2 i) (gatN S (gD g i) (gR g 2) 30 i) (5 + 3 * i) := hF.s2 hi
  refine vp_callSi (va_Run.run (va_runV (As := []) (rest := []) ⟨hx, hb, hml, hown, hts⟩ (kX6_longestRegion l D k L F (gN g 1 i) (gN g 2 i) ((gatN S (gD g i) (gR g 2) 30 i)) hs9.1 hs9.2.1 hs9.2.2.1 hs9.2.2.2.1 ) (cwV 0 hts gX9_longest_X6_longestRegion rfl rfl rfl (by decide +kernel) ⟨Nat.le_of_ble_eq_true rfl, Nat.le_of_ble_eq_true rfl⟩) (rc_preV hC hP (pl_recv hK hP hs9.1 hs9.2.1 (ci := 5) (q := (RX6, TX6, 1)) rfl)) rfl rfl hl.1 rfl (lv_room (Nat.le_of_ble_eq_true rfl)) dX9_longest_5 ⟨Nat.zero_le _, Nat.zero_le _⟩)) (fun r2 hr2 => ?_)
  subst hr2
  rw [hQ]
  exact pc_iret hx hb hrt hP (by rw [← hAd]; exact hD) (by rw [← hAd]; exact hS) (⟨rfl, F, rfl, hF⟩) dX9_longest_8 hlocks

set_option maxHeartbeats 4000000 in
set_option maxRecDepth 100000 in
theorem kX9_longest_x (l : Launch) (D : va_G) (k : Nat → ClassId) (L : List Nat) (f : Nat → va_E) (g : CG) (S : SA) (hR : cRep k L f g S) (hO : aOK S) (z : Int) (hz : -2147483648 ≤ z ∧ z < 2147483648) (hz2 : ¬ (0 ≤ z ∧ z < (sC S : Int))) (hlt : l.stackTraces = false) (n0 sz : Nat) : vx_Met l yX9_longest wsX9_longest ({ frames := 8, cells := 1, slots := 6, locals := 127 } : Room) (va_Pc [.ref (gA g 0), .int (zI (z))] (xPre D (tyL k) n0 (va_pl L f) sz)) (va_Qv (fun _ => False) (pB D (va_pl L f) sz) (va_A (va_pl L f) sz)) (xX D (va_pl L f) sz (fun E u => E = "java/lang/IndexOutOfBoundsException" ∧ u = va_pl L f)) 1 6 (va_A (va_pl L f) sz) := by
  refine vx_ofW (cc := cX9_longest) (maxL := 2) (ret := (some .int)) (by decide) rfl ?_
  intro p e s m args below meth c s₁ B hml hno hv
  obtain ⟨rfl, ⟨hsz, hn9, hP, hC, hD0⟩, hX⟩ := hv
  have hK := hC.1
  have hNW := hC.2.1
  have hx := B.exec
  have hb := B.bytes
  have hrt := B.returns
  have hts := atoms_spec (ws := wsX9_longest) B.pre
  have hown : s.vm.findClass RX9 = some m.cls := findClass_of_methodNamed B.named
  have hlocks := B.notSynchronized
  subst hsz
  obtain ⟨A, hAd⟩ : ∃ A, A = va_A (va_pl L f) s.heap.size := ⟨_, rfl⟩
  have hD := hD0.self (sz := s.heap.size)
  rw [← hAd] at hD
  have hA : ∀ q : Nat, s.heap.size ≤ q → A q := fun q h => by rw [hAd]; exact Or.inr h
  have hAn : ∀ q : Nat, A q → n0 ≤ q := fun q h => by
    rw [hAd] at h
    rcases h with ⟨k9, e9, hk9⟩ | h
    · exact hD0.2 k9 _ hk9
    · exact Nat.le_trans hn9 h
  have hS : va_S A s.heap s.heap [] := va_S.rf
  have hl := lv_entry ([.ref (gA g 0), .int (zI (z))]) (n := 2) (Nat.le_of_ble_eq_true rfl)
  rw [lg_entry_eq]
  generalize (lg_sl ([.ref (gA g 0), .int (zI (z))]) ++ List.replicate (2 - (lg_sl ([.ref (gA g 0), .int (zI (z))])).length) Slot.unset).toArray = ls at hl ⊢
  have hl : lv_has ls 2 [(0, .ref (gA g 0)), (1, .int (zI (z)))] := hl
  obtain ⟨Q, hQ⟩ : ∃ Q, Q = vx_MQ below (va_Qv (fun _ => False) (pB D (va_pl L f) s.heap.size) (va_A (va_pl L f) s.heap.size)) (xX D (va_pl L f) s.heap.size (fun E u => E = "java/lang/IndexOutOfBoundsException" ∧ u = va_pl L f)) ([.ref (gA g 0), .int (zI (z))] : List Value).toArray s 1 6 (va_A (va_pl L f) s.heap.size) := ⟨_, rfl⟩
  rw [← hQ]
  obtain ⟨⟨a0, a1, a2, a3, a4⟩, aL, ao, aM, aE, aX⟩ := id hR
  have hn0 := hO.1
  have hc0 := hO.2.2.2.1
  refine lv_aload_n hx hb dX9_longest_0 rfl (lv_at hl 0 rfl) ?_
  refine lv_iload_n hx hb dX9_longest_1 rfl (lv_at hl 1 rfl) ?_
  rw [hQ]
  exact px_outv (vx_runV (As := [.int (zI (z))]) (rest := []) ⟨hx, hb, hml, hown, hts⟩ (kX9_gatheredOf_x l D k L f g S hR hO z hz hz2 hlt n0 _) (cwV 1 hts gX9_longest_X9_gatheredOf rfl rfl rfl (by decide +kernel) ⟨Nat.le_of_ble_eq_true rfl, Nat.le_of_ble_eq_true rfl⟩) (xc_preV hC hX hP (Nat.le_trans hn9 hS.1) hD hS hAn (pl_recv hK hP (aL 0 (by decide)) a0 (ci := 8) (q := (RX9, TX9, 3)) rfl)) rfl rfl hl.1 rfl (lv_room (Nat.le_of_ble_eq_true rfl)) dX9_longest_2 ⟨Nat.le_of_ble_eq_true rfl, Nat.le_of_ble_eq_true rfl⟩) (by rw [← hAd]; exact hD) (by rw [← hAd]; exact hS) hlocks hno (Nat.le_of_ble_eq_true rfl) (Nat.le_of_ble_eq_true rfl) (fun E u h => h)

set_option maxHeartbeats 4000000 in
set_option maxRecDepth 100000 in
theorem kX9_deepest (l : Launch) (D : va_G) (k : Nat → ClassId) (L : List Nat) (f : Nat → va_E) (g : CG) (S : SA) (hR : cRep k L f g S) (hO : aOK S) (i : Nat) (hi : i < sC S) (n0 sz : Nat) : Met l yX9_deepest wsX9_deepest ({ frames := 5, cells := 0, slots := 0, locals := 113 } : Room) (va_Pc [.ref (gA g 0), .int (zI ((i : Int)))] (pPre D (tyL k) n0 (va_pl L f) sz)) (va_Qi (fun r9 u => r9 = zI ((depN (gatN S (gD g i) (gR g 2) 30 i) : Nat) : Int) ∧ ∃ F : Nat → va_E, u = va_pl L F ∧ cRep k L F (setRw g 2 (gatN S (gD g i) (gR g 2) 30)) S) (pB D (va_pl L f) sz) (va_A (va_pl L f) sz)) 0 0 (va_A (va_pl L f) sz) := by
  refine Met.ofW (cc := cX9_deepest) (maxL := 2) (ret := (some .int)) (by decide) rfl ?_
  intro p e s m args below meth c s₁ B hml hv
  obtain ⟨rfl, hsz, hn9, hP, hC, hD0⟩ := hv
  have hK := hC.1
  have hNW := hC.2.1
  have hx := B.exec
  have hb := B.bytes
  have hrt := B.returns
  have hts := atoms_spec (ws := wsX9_deepest) B.pre
  have hown : s.vm.findClass RX9 = some m.cls := findClass_of_methodNamed B.named
  have hlocks := B.notSynchronized
  subst hsz
  obtain ⟨A, hAd⟩ : ∃ A, A = va_A (va_pl L f) s.heap.size := ⟨_, rfl⟩
  have hD := hD0.self (sz := s.heap.size)
  rw [← hAd] at hD
  have hA : ∀ q : Nat, s.heap.size ≤ q → A q := fun q h => by rw [hAd]; exact Or.inr h
  have hAn : ∀ q : Nat, A q → n0 ≤ q := fun q h => by
    rw [hAd] at h
    rcases h with ⟨k9, e9, hk9⟩ | h
    · exact hD0.2 k9 _ hk9
    · exact Nat.le_trans hn9 h
  have hS : va_S A s.heap s.heap [] := va_S.rf
  have hl := lv_entry ([.ref (gA g 0), .int (zI ((i : Int)))]) (n := 2) (Nat.le_of_ble_eq_true rfl)
  rw [lg_entry_eq]
  generalize (lg_sl ([.ref (gA g 0), .int (zI ((i : Int)))]) ++ List.replicate (2 - (lg_sl ([.ref (gA g 0), .int (zI ((i : Int)))])).length) Slot.unset).toArray = ls at hl ⊢
  have hl : lv_has ls 2 [(0, .ref (gA g 0)), (1, .int (zI ((i : Int))))] := hl
  obtain ⟨Q, hQ⟩ : ∃ Q, Q = MQ below (va_Qi (fun r9 u => r9 = zI ((depN (gatN S (gD g i) (gR g 2) 30 i) : Nat) : Int) ∧ ∃ F : Nat → va_E, u = va_pl L F ∧ cRep k L F (setRw g 2 (gatN S (gD g i) (gR g 2) 30)) S) (pB D (va_pl L f) s.heap.size) (va_A (va_pl L f) s.heap.size)) ([.ref (gA g 0), .int (zI ((i : Int)))] : List Value).toArray s 0 0 (va_A (va_pl L f) s.heap.size) := ⟨_, rfl⟩
  rw [← hQ]
  obtain ⟨⟨a0, a1, a2, a3, a4⟩, aL, ao, aM, aE, aX⟩ := id hR
  have hn0 := hO.1
  have hc0 := hO.2.2.2.1
  refine lv_aload_n hx hb dX9_deepest_0 rfl (lv_at hl 0 rfl) ?_
  refine lv_iload_n hx hb dX9_deepest_1 rfl (lv_at hl 1 rfl) ?_
  refine pc_callr (va_runV (As := [.int (zI ((i : Int)))]) (rest := []) ⟨hx, hb, hml, hown, hts⟩ (kX9_gatheredOf l D k L f g S hR hO i hi n0 _) (cwV 1 hts gX9_deepest_X9_gatheredOf rfl rfl rfl (by decide +kernel) ⟨Nat.le_of_ble_eq_true rfl, Nat.le_of_ble_eq_true rfl⟩) (pc_preV hC hP (Nat.le_trans hn9 hS.1) hD hAn (pl_recv hK hP (aL 0 (by decide)) a0 (ci := 8) (q := (RX9, TX9, 3)) rfl)) rfl rfl hl.1 rfl (lv_room (Nat.le_of_ble_eq_true rfl)) dX9_deepest_2 ⟨Nat.zero_le _, Nat.zero_le _⟩) hD hS hA (fun ur1 r1 H locs hr1 hP hD hS hzr1 => ?_)
  obtain ⟨hv9, F, hw9, hF⟩ := hr1
  have hv9 : r1 = gN g 1 i := hv9
  have hw9 : ur1 = va_pl L F := hw9
  subst hv9
  subst hw9
  have hs9 : setAt k L F (gO g) (gN g 1 i) (gN g 2 i) (gatN S (gD g i) (gR g 2) 30 i) (5 + 3 * i) := hF.s2 hi
  refine vp_callSi (va_Run.run (va_runV (As := []) (rest := []) ⟨hx, hb, hml, hown, hts⟩ (kX6_deepestPlace l D k L F (gN g 1 i) (gN g 2 i) ((gatN S (gD g i) (gR g 2) 30 i)) hs9.1 hs9.2.1 hs9.2.2.1 hs9.2.2.2.1 ) (cwV 0 hts gX9_deepest_X6_deepestPlace rfl rfl rfl (by decide +kernel) ⟨Nat.le_of_ble_eq_true rfl, Nat.le_of_ble_eq_true rfl⟩) (rc_preV hC hP (pl_recv hK hP hs9.1 hs9.2.1 (ci := 5) (q := (RX6, TX6, 1)) rfl)) rfl rfl hl.1 rfl (lv_room (Nat.le_of_ble_eq_true rfl)) dX9_deepest_5 ⟨Nat.zero_le _, Nat.zero_le _⟩)) (fun r2 hr2 => ?_)
  subst hr2
  rw [hQ]
  exact pc_iret hx hb hrt hP (by rw [← hAd]; exact hD) (by rw [← hAd]; exact hS) (⟨rfl, F, rfl, hF⟩) dX9_deepest_8 hlocks

set_option maxHeartbeats 4000000 in
set_option maxRecDepth 100000 in
theorem kX9_deepest_x (l : Launch) (D : va_G) (k : Nat → ClassId) (L : List Nat) (f : Nat → va_E) (g : CG) (S : SA) (hR : cRep k L f g S) (hO : aOK S) (z : Int) (hz : -2147483648 ≤ z ∧ z < 2147483648) (hz2 : ¬ (0 ≤ z ∧ z < (sC S : Int))) (hlt : l.stackTraces = false) (n0 sz : Nat) : vx_Met l yX9_deepest wsX9_deepest ({ frames := 8, cells := 1, slots := 6, locals := 127 } : Room) (va_Pc [.ref (gA g 0), .int (zI (z))] (xPre D (tyL k) n0 (va_pl L f) sz)) (va_Qv (fun _ => False) (pB D (va_pl L f) sz) (va_A (va_pl L f) sz)) (xX D (va_pl L f) sz (fun E u => E = "java/lang/IndexOutOfBoundsException" ∧ u = va_pl L f)) 1 6 (va_A (va_pl L f) sz) := by
  refine vx_ofW (cc := cX9_deepest) (maxL := 2) (ret := (some .int)) (by decide) rfl ?_
  intro p e s m args below meth c s₁ B hml hno hv
  obtain ⟨rfl, ⟨hsz, hn9, hP, hC, hD0⟩, hX⟩ := hv
  have hK := hC.1
  have hNW := hC.2.1
  have hx := B.exec
  have hb := B.bytes
  have hrt := B.returns
  have hts := atoms_spec (ws := wsX9_deepest) B.pre
  have hown : s.vm.findClass RX9 = some m.cls := findClass_of_methodNamed B.named
  have hlocks := B.notSynchronized
  subst hsz
  obtain ⟨A, hAd⟩ : ∃ A, A = va_A (va_pl L f) s.heap.size := ⟨_, rfl⟩
  have hD := hD0.self (sz := s.heap.size)
  rw [← hAd] at hD
  have hA : ∀ q : Nat, s.heap.size ≤ q → A q := fun q h => by rw [hAd]; exact Or.inr h
  have hAn : ∀ q : Nat, A q → n0 ≤ q := fun q h => by
    rw [hAd] at h
    rcases h with ⟨k9, e9, hk9⟩ | h
    · exact hD0.2 k9 _ hk9
    · exact Nat.le_trans hn9 h
  have hS : va_S A s.heap s.heap [] := va_S.rf
  have hl := lv_entry ([.ref (gA g 0), .int (zI (z))]) (n := 2) (Nat.le_of_ble_eq_true rfl)
  rw [lg_entry_eq]
  generalize (lg_sl ([.ref (gA g 0), .int (zI (z))]) ++ List.replicate (2 - (lg_sl ([.ref (gA g 0), .int (zI (z))])).length) Slot.unset).toArray = ls at hl ⊢
  have hl : lv_has ls 2 [(0, .ref (gA g 0)), (1, .int (zI (z)))] := hl
  obtain ⟨Q, hQ⟩ : ∃ Q, Q = vx_MQ below (va_Qv (fun _ => False) (pB D (va_pl L f) s.heap.size) (va_A (va_pl L f) s.heap.size)) (xX D (va_pl L f) s.heap.size (fun E u => E = "java/lang/IndexOutOfBoundsException" ∧ u = va_pl L f)) ([.ref (gA g 0), .int (zI (z))] : List Value).toArray s 1 6 (va_A (va_pl L f) s.heap.size) := ⟨_, rfl⟩
  rw [← hQ]
  obtain ⟨⟨a0, a1, a2, a3, a4⟩, aL, ao, aM, aE, aX⟩ := id hR
  have hn0 := hO.1
  have hc0 := hO.2.2.2.1
  refine lv_aload_n hx hb dX9_deepest_0 rfl (lv_at hl 0 rfl) ?_
  refine lv_iload_n hx hb dX9_deepest_1 rfl (lv_at hl 1 rfl) ?_
  rw [hQ]
  exact px_outv (vx_runV (As := [.int (zI (z))]) (rest := []) ⟨hx, hb, hml, hown, hts⟩ (kX9_gatheredOf_x l D k L f g S hR hO z hz hz2 hlt n0 _) (cwV 1 hts gX9_deepest_X9_gatheredOf rfl rfl rfl (by decide +kernel) ⟨Nat.le_of_ble_eq_true rfl, Nat.le_of_ble_eq_true rfl⟩) (xc_preV hC hX hP (Nat.le_trans hn9 hS.1) hD hS hAn (pl_recv hK hP (aL 0 (by decide)) a0 (ci := 8) (q := (RX9, TX9, 3)) rfl)) rfl rfl hl.1 rfl (lv_room (Nat.le_of_ble_eq_true rfl)) dX9_deepest_2 ⟨Nat.le_of_ble_eq_true rfl, Nat.le_of_ble_eq_true rfl⟩) (by rw [← hAd]; exact hD) (by rw [← hAd]; exact hS) hlocks hno (Nat.le_of_ble_eq_true rfl) (Nat.le_of_ble_eq_true rfl) (fun E u h => h)

set_option maxHeartbeats 4000000 in
set_option maxRecDepth 100000 in
theorem kX9_has (l : Launch) (D : va_G) (k : Nat → ClassId) (L : List Nat) (f : Nat → va_E) (g : CG) (S : SA) (hR : cRep k L f g S) (hO : aOK S) (i : Nat) (hi : i < sC S) (y : Int) (hy : -2147483648 ≤ y ∧ y < 2147483648) (x : Int) (hx : -2147483648 ≤ x ∧ x < 2147483648) (n0 sz : Nat) : Met l yX9_has wsX9_has ({ frames := 5, cells := 0, slots := 0, locals := 113 } : Room) (va_Pc [.ref (gA g 0), .int (zI ((i : Int))), .int (zI (y)), .int (zI (x))] (pPre D (tyL k) n0 (va_pl L f) sz)) (va_Qi (fun r9 u => r9 = bI (hasB (gatN S (gD g i) (gR g 2) 30 i) y x) ∧ ∃ F : Nat → va_E, u = va_pl L F ∧ cRep k L F (setRw g 2 (gatN S (gD g i) (gR g 2) 30)) S) (pB D (va_pl L f) sz) (va_A (va_pl L f) sz)) 0 0 (va_A (va_pl L f) sz) := by
  refine Met.ofW (cc := cX9_has) (maxL := 4) (ret := (some .boolean)) (by decide) rfl ?_
  intro p e s m args below meth c s₁ B hml hv
  obtain ⟨rfl, hsz, hn9, hP, hC, hD0⟩ := hv
  have hK := hC.1
  have hNW := hC.2.1
  have hx := B.exec
  have hb := B.bytes
  have hrt := B.returns
  have hts := atoms_spec (ws := wsX9_has) B.pre
  have hown : s.vm.findClass RX9 = some m.cls := findClass_of_methodNamed B.named
  have hlocks := B.notSynchronized
  subst hsz
  obtain ⟨A, hAd⟩ : ∃ A, A = va_A (va_pl L f) s.heap.size := ⟨_, rfl⟩
  have hD := hD0.self (sz := s.heap.size)
  rw [← hAd] at hD
  have hA : ∀ q : Nat, s.heap.size ≤ q → A q := fun q h => by rw [hAd]; exact Or.inr h
  have hAn : ∀ q : Nat, A q → n0 ≤ q := fun q h => by
    rw [hAd] at h
    rcases h with ⟨k9, e9, hk9⟩ | h
    · exact hD0.2 k9 _ hk9
    · exact Nat.le_trans hn9 h
  have hS : va_S A s.heap s.heap [] := va_S.rf
  have hl := lv_entry ([.ref (gA g 0), .int (zI ((i : Int))), .int (zI (y)), .int (zI (x))]) (n := 4) (Nat.le_of_ble_eq_true rfl)
  rw [lg_entry_eq]
  generalize (lg_sl ([.ref (gA g 0), .int (zI ((i : Int))), .int (zI (y)), .int (zI (x))]) ++ List.replicate (4 - (lg_sl ([.ref (gA g 0), .int (zI ((i : Int))), .int (zI (y)), .int (zI (x))])).length) Slot.unset).toArray = ls at hl ⊢
  have hl : lv_has ls 4 [(0, .ref (gA g 0)), (1, .int (zI ((i : Int)))), (2, .int (zI (y))), (3, .int (zI (x)))] := hl
  obtain ⟨Q, hQ⟩ : ∃ Q, Q = MQ below (va_Qi (fun r9 u => r9 = bI (hasB (gatN S (gD g i) (gR g 2) 30 i) y x) ∧ ∃ F : Nat → va_E, u = va_pl L F ∧ cRep k L F (setRw g 2 (gatN S (gD g i) (gR g 2) 30)) S) (pB D (va_pl L f) s.heap.size) (va_A (va_pl L f) s.heap.size)) ([.ref (gA g 0), .int (zI ((i : Int))), .int (zI (y)), .int (zI (x))] : List Value).toArray s 0 0 (va_A (va_pl L f) s.heap.size) := ⟨_, rfl⟩
  rw [← hQ]
  obtain ⟨⟨a0, a1, a2, a3, a4⟩, aL, ao, aM, aE, aX⟩ := id hR
  have hn0 := hO.1
  have hc0 := hO.2.2.2.1
  refine lv_aload_n hx hb dX9_has_0 rfl (lv_at hl 0 rfl) ?_
  refine lv_iload_n hx hb dX9_has_1 rfl (lv_at hl 1 rfl) ?_
  refine pc_callr (va_runV (As := [.int (zI ((i : Int)))]) (rest := []) ⟨hx, hb, hml, hown, hts⟩ (kX9_gatheredOf l D k L f g S hR hO i hi n0 _) (cwV 1 hts gX9_has_X9_gatheredOf rfl rfl rfl (by decide +kernel) ⟨Nat.le_of_ble_eq_true rfl, Nat.le_of_ble_eq_true rfl⟩) (pc_preV hC hP (Nat.le_trans hn9 hS.1) hD hAn (pl_recv hK hP (aL 0 (by decide)) a0 (ci := 8) (q := (RX9, TX9, 3)) rfl)) rfl rfl hl.1 rfl (lv_room (Nat.le_of_ble_eq_true rfl)) dX9_has_2 ⟨Nat.zero_le _, Nat.zero_le _⟩) hD hS hA (fun ur1 r1 H locs hr1 hP hD hS hzr1 => ?_)
  obtain ⟨hv9, F, hw9, hF⟩ := hr1
  have hv9 : r1 = gN g 1 i := hv9
  have hw9 : ur1 = va_pl L F := hw9
  subst hv9
  subst hw9
  have hs9 : setAt k L F (gO g) (gN g 1 i) (gN g 2 i) (gatN S (gD g i) (gR g 2) 30 i) (5 + 3 * i) := hF.s2 hi
  refine lv_iload_n hx hb dX9_has_5 rfl (lv_at hl 2 rfl) ?_
  refine lv_iload_n hx hb dX9_has_6 rfl (lv_at hl 3 rfl) ?_
  refine vp_callSi (va_Run.run (va_runV (As := [.int (zI (y)), .int (zI (x))]) (rest := []) ⟨hx, hb, hml, hown, hts⟩ (kX6_contains l D k L F (gN g 1 i) (gN g 2 i) ((gatN S (gD g i) (gR g 2) 30 i)) hs9.1 hs9.2.1 hs9.2.2.1 hs9.2.2.2.1 (y) (by omega) (x) (by omega)) (cwV 2 hts gX9_has_X6_contains rfl rfl rfl (by decide +kernel) ⟨Nat.le_of_ble_eq_true rfl, Nat.le_of_ble_eq_true rfl⟩) (rc_preV hC hP (pl_recv hK hP hs9.1 hs9.2.1 (ci := 5) (q := (RX6, TX6, 1)) rfl)) rfl rfl hl.1 rfl (lv_room (Nat.le_of_ble_eq_true rfl)) dX9_has_7 ⟨Nat.zero_le _, Nat.zero_le _⟩)) (fun r2 hr2 => ?_)
  subst hr2
  rw [hQ]
  exact pc_zret hx hb hrt hP (by rw [← hAd]; exact hD) (by rw [← hAd]; exact hS) (⟨rfl, F, rfl, hF⟩) dX9_has_10 hlocks

set_option maxHeartbeats 4000000 in
set_option maxRecDepth 100000 in
theorem kX9_has_x (l : Launch) (D : va_G) (k : Nat → ClassId) (L : List Nat) (f : Nat → va_E) (g : CG) (S : SA) (hR : cRep k L f g S) (hO : aOK S) (z : Int) (hz : -2147483648 ≤ z ∧ z < 2147483648) (hz2 : ¬ (0 ≤ z ∧ z < (sC S : Int))) (y x : Int) (hlt : l.stackTraces = false) (n0 sz : Nat) : vx_Met l yX9_has wsX9_has ({ frames := 8, cells := 1, slots := 6, locals := 127 } : Room) (va_Pc [.ref (gA g 0), .int (zI (z)), .int (zI (y)), .int (zI (x))] (xPre D (tyL k) n0 (va_pl L f) sz)) (va_Qv (fun _ => False) (pB D (va_pl L f) sz) (va_A (va_pl L f) sz)) (xX D (va_pl L f) sz (fun E u => E = "java/lang/IndexOutOfBoundsException" ∧ u = va_pl L f)) 1 6 (va_A (va_pl L f) sz) := by
  refine vx_ofW (cc := cX9_has) (maxL := 4) (ret := (some .boolean)) (by decide) rfl ?_
  intro p e s m args below meth c s₁ B hml hno hv
  obtain ⟨rfl, ⟨hsz, hn9, hP, hC, hD0⟩, hX⟩ := hv
  have hK := hC.1
  have hNW := hC.2.1
  have hx := B.exec
  have hb := B.bytes
  have hrt := B.returns
  have hts := atoms_spec (ws := wsX9_has) B.pre
  have hown : s.vm.findClass RX9 = some m.cls := findClass_of_methodNamed B.named
  have hlocks := B.notSynchronized
  subst hsz
  obtain ⟨A, hAd⟩ : ∃ A, A = va_A (va_pl L f) s.heap.size := ⟨_, rfl⟩
  have hD := hD0.self (sz := s.heap.size)
  rw [← hAd] at hD
  have hA : ∀ q : Nat, s.heap.size ≤ q → A q := fun q h => by rw [hAd]; exact Or.inr h
  have hAn : ∀ q : Nat, A q → n0 ≤ q := fun q h => by
    rw [hAd] at h
    rcases h with ⟨k9, e9, hk9⟩ | h
    · exact hD0.2 k9 _ hk9
    · exact Nat.le_trans hn9 h
  have hS : va_S A s.heap s.heap [] := va_S.rf
  have hl := lv_entry ([.ref (gA g 0), .int (zI (z)), .int (zI (y)), .int (zI (x))]) (n := 4) (Nat.le_of_ble_eq_true rfl)
  rw [lg_entry_eq]
  generalize (lg_sl ([.ref (gA g 0), .int (zI (z)), .int (zI (y)), .int (zI (x))]) ++ List.replicate (4 - (lg_sl ([.ref (gA g 0), .int (zI (z)), .int (zI (y)), .int (zI (x))])).length) Slot.unset).toArray = ls at hl ⊢
  have hl : lv_has ls 4 [(0, .ref (gA g 0)), (1, .int (zI (z))), (2, .int (zI (y))), (3, .int (zI (x)))] := hl
  obtain ⟨Q, hQ⟩ : ∃ Q, Q = vx_MQ below (va_Qv (fun _ => False) (pB D (va_pl L f) s.heap.size) (va_A (va_pl L f) s.heap.size)) (xX D (va_pl L f) s.heap.size (fun E u => E = "java/lang/IndexOutOfBoundsException" ∧ u = va_pl L f)) ([.ref (gA g 0), .int (zI (z)), .int (zI (y)), .int (zI (x))] : List Value).toArray s 1 6 (va_A (va_pl L f) s.heap.size) := ⟨_, rfl⟩
  rw [← hQ]
  obtain ⟨⟨a0, a1, a2, a3, a4⟩, aL, ao, aM, aE, aX⟩ := id hR
  have hn0 := hO.1
  have hc0 := hO.2.2.2.1
  refine lv_aload_n hx hb dX9_has_0 rfl (lv_at hl 0 rfl) ?_
  refine lv_iload_n hx hb dX9_has_1 rfl (lv_at hl 1 rfl) ?_
  rw [hQ]
  exact px_outv (vx_runV (As := [.int (zI (z))]) (rest := []) ⟨hx, hb, hml, hown, hts⟩ (kX9_gatheredOf_x l D k L f g S hR hO z hz hz2 hlt n0 _) (cwV 1 hts gX9_has_X9_gatheredOf rfl rfl rfl (by decide +kernel) ⟨Nat.le_of_ble_eq_true rfl, Nat.le_of_ble_eq_true rfl⟩) (xc_preV hC hX hP (Nat.le_trans hn9 hS.1) hD hS hAn (pl_recv hK hP (aL 0 (by decide)) a0 (ci := 8) (q := (RX9, TX9, 3)) rfl)) rfl rfl hl.1 rfl (lv_room (Nat.le_of_ble_eq_true rfl)) dX9_has_2 ⟨Nat.le_of_ble_eq_true rfl, Nat.le_of_ble_eq_true rfl⟩) (by rw [← hAd]; exact hD) (by rw [← hAd]; exact hS) hlocks hno (Nat.le_of_ble_eq_true rfl) (Nat.le_of_ble_eq_true rfl) (fun E u h => h)

set_option maxHeartbeats 4000000 in
set_option maxRecDepth 100000 in
theorem kX9_regionsOneByOne (l : Launch) (D : va_G) (k : Nat → ClassId) (L : List Nat) (f : Nat → va_E) (g : CG) (S : SA) (hR : cRep k L f g S) (hO : aOK S) (i : Nat) (hi : i < sC S) (n0 sz : Nat) : Met l yX9_regionsOneByOne wsX9_regionsOneByOne ({ frames := 7, cells := 0, slots := 0, locals := 168 } : Room) (va_Pc [.ref (gA g 0), .int (zI ((i : Int)))] (pPre D (tyL k) n0 (va_pl L f) sz)) (va_Qi (fun r9 u => ∃ (F : Nat → va_E) (X J : Nat → Nat → Int32), r9 = zI ((sizeR (X i) : Nat) : Int) ∧ u = va_pl L F ∧ cRep k L F (setRw (setRw g 6 J) 4 X) S ∧ askI S (gD g i) 30 X J) (pB D (va_pl L f) sz) (va_A (va_pl L f) sz)) 0 0 (va_A (va_pl L f) sz) := by
  refine Met.ofW (cc := cX9_regionsOneByOne) (maxL := 2) (ret := (some .int)) (by decide) rfl ?_
  intro p e s m args below meth c s₁ B hml hv
  obtain ⟨rfl, hsz, hn9, hP, hC, hD0⟩ := hv
  have hK := hC.1
  have hNW := hC.2.1
  have hx := B.exec
  have hb := B.bytes
  have hrt := B.returns
  have hts := atoms_spec (ws := wsX9_regionsOneByOne) B.pre
  have hown : s.vm.findClass RX9 = some m.cls := findClass_of_methodNamed B.named
  have hlocks := B.notSynchronized
  subst hsz
  obtain ⟨A, hAd⟩ : ∃ A, A = va_A (va_pl L f) s.heap.size := ⟨_, rfl⟩
  have hD := hD0.self (sz := s.heap.size)
  rw [← hAd] at hD
  have hA : ∀ q : Nat, s.heap.size ≤ q → A q := fun q h => by rw [hAd]; exact Or.inr h
  have hAn : ∀ q : Nat, A q → n0 ≤ q := fun q h => by
    rw [hAd] at h
    rcases h with ⟨k9, e9, hk9⟩ | h
    · exact hD0.2 k9 _ hk9
    · exact Nat.le_trans hn9 h
  have hS : va_S A s.heap s.heap [] := va_S.rf
  have hl := lv_entry ([.ref (gA g 0), .int (zI ((i : Int)))]) (n := 2) (Nat.le_of_ble_eq_true rfl)
  rw [lg_entry_eq]
  generalize (lg_sl ([.ref (gA g 0), .int (zI ((i : Int)))]) ++ List.replicate (2 - (lg_sl ([.ref (gA g 0), .int (zI ((i : Int)))])).length) Slot.unset).toArray = ls at hl ⊢
  have hl : lv_has ls 2 [(0, .ref (gA g 0)), (1, .int (zI ((i : Int))))] := hl
  obtain ⟨Q, hQ⟩ : ∃ Q, Q = MQ below (va_Qi (fun r9 u => ∃ (F : Nat → va_E) (X J : Nat → Nat → Int32), r9 = zI ((sizeR (X i) : Nat) : Int) ∧ u = va_pl L F ∧ cRep k L F (setRw (setRw g 6 J) 4 X) S ∧ askI S (gD g i) 30 X J) (pB D (va_pl L f) s.heap.size) (va_A (va_pl L f) s.heap.size)) ([.ref (gA g 0), .int (zI ((i : Int)))] : List Value).toArray s 0 0 (va_A (va_pl L f) s.heap.size) := ⟨_, rfl⟩
  rw [← hQ]
  obtain ⟨⟨a0, a1, a2, a3, a4⟩, aL, ao, aM, aE, aX⟩ := id hR
  have hn0 := hO.1
  have hc0 := hO.2.2.2.1
  refine lv_aload_n hx hb dX9_regionsOneByOne_0 rfl (lv_at hl 0 rfl) ?_
  refine lv_iload_n hx hb dX9_regionsOneByOne_1 rfl (lv_at hl 1 rfl) ?_
  refine pc_callr (va_runV (As := [.int (zI ((i : Int)))]) (rest := []) ⟨hx, hb, hml, hown, hts⟩ (kX9_askedOf l D k L f g S hR hO i hi n0 _) (cwV 1 hts gX9_regionsOneByOne_X9_askedOf rfl rfl rfl (by decide +kernel) ⟨Nat.le_of_ble_eq_true rfl, Nat.le_of_ble_eq_true rfl⟩) (pc_preV hC hP (Nat.le_trans hn9 hS.1) hD hAn (pl_recv hK hP (aL 0 (by decide)) a0 (ci := 8) (q := (RX9, TX9, 3)) rfl)) rfl rfl hl.1 rfl (lv_room (Nat.le_of_ble_eq_true rfl)) dX9_regionsOneByOne_2 ⟨Nat.zero_le _, Nat.zero_le _⟩) hD hS hA (fun ur1 r1 H locs hr1 hP hD hS hzr1 => ?_)
  obtain ⟨hv9, F, X, J, hw9, hF, hX9⟩ := hr1
  have hv9 : r1 = gN g 3 i := hv9
  have hw9 : ur1 = va_pl L F := hw9
  subst hv9
  subst hw9
  have hs9 : setAt k L F (gO g) (gN g 3 i) (gN g 4 i) (X i) (6 + 3 * i) := hF.s4 hi
  refine vp_callSi (va_Run.run (va_runV (As := []) (rest := []) ⟨hx, hb, hml, hown, hts⟩ (kX6_size l D k L F (gN g 3 i) (gN g 4 i) ((X i)) hs9.1 hs9.2.1 hs9.2.2.1 hs9.2.2.2.1 ) (cwV 0 hts gX9_regionsOneByOne_X6_size rfl rfl rfl (by decide +kernel) ⟨Nat.le_of_ble_eq_true rfl, Nat.le_of_ble_eq_true rfl⟩) (rc_preV hC hP (pl_recv hK hP hs9.1 hs9.2.1 (ci := 5) (q := (RX6, TX6, 1)) rfl)) rfl rfl hl.1 rfl (lv_room (Nat.le_of_ble_eq_true rfl)) dX9_regionsOneByOne_5 ⟨Nat.zero_le _, Nat.zero_le _⟩)) (fun r2 hr2 => ?_)
  subst hr2
  rw [hQ]
  exact pc_iret hx hb hrt hP (by rw [← hAd]; exact hD) (by rw [← hAd]; exact hS) (⟨F, X, J, rfl, rfl, hF, hX9⟩) dX9_regionsOneByOne_8 hlocks

set_option maxHeartbeats 4000000 in
set_option maxRecDepth 100000 in
theorem kX9_regionsOneByOne_x (l : Launch) (D : va_G) (k : Nat → ClassId) (L : List Nat) (f : Nat → va_E) (g : CG) (S : SA) (hR : cRep k L f g S) (hO : aOK S) (z : Int) (hz : -2147483648 ≤ z ∧ z < 2147483648) (hz2 : ¬ (0 ≤ z ∧ z < (sC S : Int))) (hlt : l.stackTraces = false) (n0 sz : Nat) : vx_Met l yX9_regionsOneByOne wsX9_regionsOneByOne ({ frames := 8, cells := 1, slots := 6, locals := 127 } : Room) (va_Pc [.ref (gA g 0), .int (zI (z))] (xPre D (tyL k) n0 (va_pl L f) sz)) (va_Qv (fun _ => False) (pB D (va_pl L f) sz) (va_A (va_pl L f) sz)) (xX D (va_pl L f) sz (fun E u => E = "java/lang/IndexOutOfBoundsException" ∧ u = va_pl L f)) 1 6 (va_A (va_pl L f) sz) := by
  refine vx_ofW (cc := cX9_regionsOneByOne) (maxL := 2) (ret := (some .int)) (by decide) rfl ?_
  intro p e s m args below meth c s₁ B hml hno hv
  obtain ⟨rfl, ⟨hsz, hn9, hP, hC, hD0⟩, hX⟩ := hv
  have hK := hC.1
  have hNW := hC.2.1
  have hx := B.exec
  have hb := B.bytes
  have hrt := B.returns
  have hts := atoms_spec (ws := wsX9_regionsOneByOne) B.pre
  have hown : s.vm.findClass RX9 = some m.cls := findClass_of_methodNamed B.named
  have hlocks := B.notSynchronized
  subst hsz
  obtain ⟨A, hAd⟩ : ∃ A, A = va_A (va_pl L f) s.heap.size := ⟨_, rfl⟩
  have hD := hD0.self (sz := s.heap.size)
  rw [← hAd] at hD
  have hA : ∀ q : Nat, s.heap.size ≤ q → A q := fun q h => by rw [hAd]; exact Or.inr h
  have hAn : ∀ q : Nat, A q → n0 ≤ q := fun q h => by
    rw [hAd] at h
    rcases h with ⟨k9, e9, hk9⟩ | h
    · exact hD0.2 k9 _ hk9
    · exact Nat.le_trans hn9 h
  have hS : va_S A s.heap s.heap [] := va_S.rf
  have hl := lv_entry ([.ref (gA g 0), .int (zI (z))]) (n := 2) (Nat.le_of_ble_eq_true rfl)
  rw [lg_entry_eq]
  generalize (lg_sl ([.ref (gA g 0), .int (zI (z))]) ++ List.replicate (2 - (lg_sl ([.ref (gA g 0), .int (zI (z))])).length) Slot.unset).toArray = ls at hl ⊢
  have hl : lv_has ls 2 [(0, .ref (gA g 0)), (1, .int (zI (z)))] := hl
  obtain ⟨Q, hQ⟩ : ∃ Q, Q = vx_MQ below (va_Qv (fun _ => False) (pB D (va_pl L f) s.heap.size) (va_A (va_pl L f) s.heap.size)) (xX D (va_pl L f) s.heap.size (fun E u => E = "java/lang/IndexOutOfBoundsException" ∧ u = va_pl L f)) ([.ref (gA g 0), .int (zI (z))] : List Value).toArray s 1 6 (va_A (va_pl L f) s.heap.size) := ⟨_, rfl⟩
  rw [← hQ]
  obtain ⟨⟨a0, a1, a2, a3, a4⟩, aL, ao, aM, aE, aX⟩ := id hR
  have hn0 := hO.1
  have hc0 := hO.2.2.2.1
  refine lv_aload_n hx hb dX9_regionsOneByOne_0 rfl (lv_at hl 0 rfl) ?_
  refine lv_iload_n hx hb dX9_regionsOneByOne_1 rfl (lv_at hl 1 rfl) ?_
  rw [hQ]
  exact px_outv (vx_runV (As := [.int (zI (z))]) (rest := []) ⟨hx, hb, hml, hown, hts⟩ (kX9_askedOf_x l D k L f g S hR hO z hz hz2 hlt n0 _) (cwV 1 hts gX9_regionsOneByOne_X9_askedOf rfl rfl rfl (by decide +kernel) ⟨Nat.le_of_ble_eq_true rfl, Nat.le_of_ble_eq_true rfl⟩) (xc_preV hC hX hP (Nat.le_trans hn9 hS.1) hD hS hAn (pl_recv hK hP (aL 0 (by decide)) a0 (ci := 8) (q := (RX9, TX9, 3)) rfl)) rfl rfl hl.1 rfl (lv_room (Nat.le_of_ble_eq_true rfl)) dX9_regionsOneByOne_2 ⟨Nat.le_of_ble_eq_true rfl, Nat.le_of_ble_eq_true rfl⟩) (by rw [← hAd]; exact hD) (by rw [← hAd]; exact hS) hlocks hno (Nat.le_of_ble_eq_true rfl) (Nat.le_of_ble_eq_true rfl) (fun E u h => h)

set_option maxHeartbeats 4000000 in
set_option maxRecDepth 100000 in
theorem kX9_regionAt (l : Launch) (D : va_G) (k : Nat → ClassId) (L : List Nat) (f : Nat → va_E) (g : CG) (S : SA) (hR : cRep k L f g S) (hO : aOK S) (i : Nat) (hi : i < sC S) (y : Int) (hy : -2147483648 ≤ y ∧ y < 2147483648) (a b : Nat) (ha : a < 24) (hb9 : b ≤ 24) (hq2 : hasB (gatN S (gD g i) (gR g 2) 30 i) (a : Int) (b : Int) = true) (hq3 : ((fb_ct (linB (gatN S (gD g i) (gR g 2) 30 i)) (25 * a + b) : Nat) : Int) = y) (n0 sz : Nat) : Met l yX9_regionAt wsX9_regionAt ({ frames := 5, cells := 0, slots := 0, locals := 113 } : Room) (va_Pc [.ref (gA g 0), .int (zI ((i : Int))), .int (zI (y))] (pPre D (tyL k) n0 (va_pl L f) sz)) (va_Qi (fun r9 u => r9 = zI (100 * (a : Int) + (b : Int)) ∧ ∃ F : Nat → va_E, u = va_pl L F ∧ cRep k L F (setRw g 2 (gatN S (gD g i) (gR g 2) 30)) S) (pB D (va_pl L f) sz) (va_A (va_pl L f) sz)) 0 0 (va_A (va_pl L f) sz) := by
  refine Met.ofW (cc := cX9_regionAt) (maxL := 4) (ret := (some .int)) (by decide) rfl ?_
  intro p e s m args below meth c s₁ B hml hv
  obtain ⟨rfl, hsz, hn9, hP, hC, hD0⟩ := hv
  have hK := hC.1
  have hNW := hC.2.1
  have hx := B.exec
  have hb := B.bytes
  have hrt := B.returns
  have hts := atoms_spec (ws := wsX9_regionAt) B.pre
  have hown : s.vm.findClass RX9 = some m.cls := findClass_of_methodNamed B.named
  have hlocks := B.notSynchronized
  subst hsz
  obtain ⟨A, hAd⟩ : ∃ A, A = va_A (va_pl L f) s.heap.size := ⟨_, rfl⟩
  have hD := hD0.self (sz := s.heap.size)
  rw [← hAd] at hD
  have hA : ∀ q : Nat, s.heap.size ≤ q → A q := fun q h => by rw [hAd]; exact Or.inr h
  have hAn : ∀ q : Nat, A q → n0 ≤ q := fun q h => by
    rw [hAd] at h
    rcases h with ⟨k9, e9, hk9⟩ | h
    · exact hD0.2 k9 _ hk9
    · exact Nat.le_trans hn9 h
  have hS : va_S A s.heap s.heap [] := va_S.rf
  have hl := lv_entry ([.ref (gA g 0), .int (zI ((i : Int))), .int (zI (y))]) (n := 4) (Nat.le_of_ble_eq_true rfl)
  rw [lg_entry_eq]
  generalize (lg_sl ([.ref (gA g 0), .int (zI ((i : Int))), .int (zI (y))]) ++ List.replicate (4 - (lg_sl ([.ref (gA g 0), .int (zI ((i : Int))), .int (zI (y))])).length) Slot.unset).toArray = ls at hl ⊢
  have hl : lv_has ls 4 [(0, .ref (gA g 0)), (1, .int (zI ((i : Int)))), (2, .int (zI (y)))] := hl
  obtain ⟨Q, hQ⟩ : ∃ Q, Q = MQ below (va_Qi (fun r9 u => r9 = zI (100 * (a : Int) + (b : Int)) ∧ ∃ F : Nat → va_E, u = va_pl L F ∧ cRep k L F (setRw g 2 (gatN S (gD g i) (gR g 2) 30)) S) (pB D (va_pl L f) s.heap.size) (va_A (va_pl L f) s.heap.size)) ([.ref (gA g 0), .int (zI ((i : Int))), .int (zI (y))] : List Value).toArray s 0 0 (va_A (va_pl L f) s.heap.size) := ⟨_, rfl⟩
  rw [← hQ]
  obtain ⟨⟨a0, a1, a2, a3, a4⟩, aL, ao, aM, aE, aX⟩ := id hR
  have hn0 := hO.1
  have hc0 := hO.2.2.2.1
  refine lv_aload_n hx hb dX9_regionAt_0 rfl (lv_at hl 0 rfl) ?_
  refine lv_iload_n hx hb dX9_regionAt_1 rfl (lv_at hl 1 rfl) ?_
  refine pc_callr (va_runV (As := [.int (zI ((i : Int)))]) (rest := []) ⟨hx, hb, hml, hown, hts⟩ (kX9_gatheredOf l D k L f g S hR hO i hi n0 _) (cwV 1 hts gX9_regionAt_X9_gatheredOf rfl rfl rfl (by decide +kernel) ⟨Nat.le_of_ble_eq_true rfl, Nat.le_of_ble_eq_true rfl⟩) (pc_preV hC hP (Nat.le_trans hn9 hS.1) hD hAn (pl_recv hK hP (aL 0 (by decide)) a0 (ci := 8) (q := (RX9, TX9, 3)) rfl)) rfl rfl hl.1 rfl (lv_room (Nat.le_of_ble_eq_true rfl)) dX9_regionAt_2 ⟨Nat.zero_le _, Nat.zero_le _⟩) hD hS hA (fun ur1 r1 H locs hr1 hP hD hS hzr1 => ?_)
  obtain ⟨hv9, F, hw9, hF⟩ := hr1
  have hv9 : r1 = gN g 1 i := hv9
  have hw9 : ur1 = va_pl L F := hw9
  subst hv9
  subst hw9
  have hs9 : setAt k L F (gO g) (gN g 1 i) (gN g 2 i) (gatN S (gD g i) (gR g 2) 30 i) (5 + 3 * i) := hF.s2 hi
  refine lv_iload_n hx hb dX9_regionAt_5 rfl (lv_at hl 2 rfl) ?_
  refine vp_callSi (va_Run.run (va_runV (As := [.int (zI (y))]) (rest := []) ⟨hx, hb, hml, hown, hts⟩ (kX6_told l D k L F (gN g 1 i) (gN g 2 i) ((gatN S (gD g i) (gR g 2) 30 i)) hs9.1 hs9.2.1 hs9.2.2.1 hs9.2.2.2.1 (y) (by omega)) (cwV 1 hts gX9_regionAt_X6_told rfl rfl rfl (by decide +kernel) ⟨Nat.le_of_ble_eq_true rfl, Nat.le_of_ble_eq_true rfl⟩) (rc_preV hC hP (pl_recv hK hP hs9.1 hs9.2.1 (ci := 5) (q := (RX6, TX6, 1)) rfl)) rfl rfl hl.1 rfl (lv_room (Nat.le_of_ble_eq_true rfl)) dX9_regionAt_6 ⟨Nat.zero_le _, Nat.zero_le _⟩)) (fun r2 hr2 => ?_)
  obtain rfl := told_u hr2 ha hb9 hq2 hq3
  refine lv_istore_n (lv' := [(3, .int (zI (100 * (a : Int) + (b : Int)))), (0, .ref (gA g 0)), (1, .int (zI ((i : Int)))), (2, .int (zI (y)))]) hx hb dX9_regionAt_9 rfl hl (by decide) rfl (fun ls hl => ?_)
  refine lv_iload_n hx hb dX9_regionAt_10 rfl (lv_at hl 0 rfl) ?_
  refine zr_if_ge (tgt := 24) hx hb dX9_regionAt_11 (by decide) (by omega) (fun c3 => ?_) (fun c3 => ?_)
  · refine lv_iload_n hx hb dX9_regionAt_24 rfl (lv_at hl 0 rfl) ?_
    rw [hQ]
    exact pc_iret hx hb hrt hP (by rw [← hAd]; exact hD) (by rw [← hAd]; exact hS) (⟨rfl, F, rfl, hF⟩) dX9_regionAt_25 hlocks
  · exfalso; omega

set_option maxHeartbeats 4000000 in
set_option maxRecDepth 100000 in
theorem kX9_regionAt_x2 (l : Launch) (D : va_G) (k : Nat → ClassId) (L : List Nat) (f : Nat → va_E) (g : CG) (S : SA) (hR : cRep k L f g S) (hO : aOK S) (i : Nat) (hi : i < sC S) (y : Int) (hy : -2147483648 ≤ y ∧ y < 2147483648) (hq2 : ∀ q, q < 600 → linB (gatN S (gD g i) (gR g 2) 30 i) q = true → ((fb_ct (linB (gatN S (gD g i) (gR g 2) 30 i)) q : Nat) : Int) ≠ y) (hlt : l.stackTraces = false) (n0 sz : Nat) : vx_Met l yX9_regionAt wsX9_regionAt ({ frames := 6, cells := 1, slots := 6, locals := 113 } : Room) (va_Pc [.ref (gA g 0), .int (zI ((i : Int))), .int (zI (y))] (xPre D (tyL k) n0 (va_pl L f) sz)) (va_Qv (fun _ => False) (pB D (va_pl L f) sz) (va_A (va_pl L f) sz)) (xX D (va_pl L f) sz (fun E u => E = "java/lang/IndexOutOfBoundsException" ∧ ∃ F : Nat → va_E, u = va_pl L F ∧ cRep k L F (setRw g 2 (gatN S (gD g i) (gR g 2) 30)) S)) 1 6 (va_A (va_pl L f) sz) := by
  refine vx_ofW (cc := cX9_regionAt) (maxL := 4) (ret := (some .int)) (by decide) rfl ?_
  intro p e s m args below meth c s₁ B hml hno hv
  obtain ⟨rfl, ⟨hsz, hn9, hP, hC, hD0⟩, hX⟩ := hv
  have hK := hC.1
  have hNW := hC.2.1
  have hx := B.exec
  have hb := B.bytes
  have hrt := B.returns
  have hts := atoms_spec (ws := wsX9_regionAt) B.pre
  have hown : s.vm.findClass RX9 = some m.cls := findClass_of_methodNamed B.named
  have hlocks := B.notSynchronized
  subst hsz
  obtain ⟨A, hAd⟩ : ∃ A, A = va_A (va_pl L f) s.heap.size := ⟨_, rfl⟩
  have hD := hD0.self (sz := s.heap.size)
  rw [← hAd] at hD
  have hA : ∀ q : Nat, s.heap.size ≤ q → A q := fun q h => by rw [hAd]; exact Or.inr h
  have hAn : ∀ q : Nat, A q → n0 ≤ q := fun q h => by
    rw [hAd] at h
    rcases h with ⟨k9, e9, hk9⟩ | h
    · exact hD0.2 k9 _ hk9
    · exact Nat.le_trans hn9 h
  have hS : va_S A s.heap s.heap [] := va_S.rf
  have hw_0 := hts (.classLink RX9 67 "java/lang/IndexOutOfBoundsException") (by decide +kernel)
  have hw_1 := hts (.initialized "java/lang/IndexOutOfBoundsException") (by decide +kernel)
  have hl := lv_entry ([.ref (gA g 0), .int (zI ((i : Int))), .int (zI (y))]) (n := 4) (Nat.le_of_ble_eq_true rfl)
  rw [lg_entry_eq]
  generalize (lg_sl ([.ref (gA g 0), .int (zI ((i : Int))), .int (zI (y))]) ++ List.replicate (4 - (lg_sl ([.ref (gA g 0), .int (zI ((i : Int))), .int (zI (y))])).length) Slot.unset).toArray = ls at hl ⊢
  have hl : lv_has ls 4 [(0, .ref (gA g 0)), (1, .int (zI ((i : Int)))), (2, .int (zI (y)))] := hl
  obtain ⟨Q, hQ⟩ : ∃ Q, Q = vx_MQ below (va_Qv (fun _ => False) (pB D (va_pl L f) s.heap.size) (va_A (va_pl L f) s.heap.size)) (xX D (va_pl L f) s.heap.size (fun E u => E = "java/lang/IndexOutOfBoundsException" ∧ ∃ F : Nat → va_E, u = va_pl L F ∧ cRep k L F (setRw g 2 (gatN S (gD g i) (gR g 2) 30)) S)) ([.ref (gA g 0), .int (zI ((i : Int))), .int (zI (y))] : List Value).toArray s 1 6 (va_A (va_pl L f) s.heap.size) := ⟨_, rfl⟩
  rw [← hQ]
  obtain ⟨⟨a0, a1, a2, a3, a4⟩, aL, ao, aM, aE, aX⟩ := id hR
  have hn0 := hO.1
  have hc0 := hO.2.2.2.1
  refine lv_aload_n hx hb dX9_regionAt_0 rfl (lv_at hl 0 rfl) ?_
  refine lv_iload_n hx hb dX9_regionAt_1 rfl (lv_at hl 1 rfl) ?_
  refine pc_callr (va_runV (As := [.int (zI ((i : Int)))]) (rest := []) ⟨hx, hb, hml, hown, hts⟩ (kX9_gatheredOf l D k L f g S hR hO i hi n0 _) (cwV 1 hts gX9_regionAt_X9_gatheredOf rfl rfl rfl (by decide +kernel) ⟨Nat.le_of_ble_eq_true rfl, Nat.le_of_ble_eq_true rfl⟩) (pc_preV hC hP (Nat.le_trans hn9 hS.1) hD hAn (pl_recv hK hP (aL 0 (by decide)) a0 (ci := 8) (q := (RX9, TX9, 3)) rfl)) rfl rfl hl.1 rfl (lv_room (Nat.le_of_ble_eq_true rfl)) dX9_regionAt_2 ⟨Nat.zero_le _, Nat.zero_le _⟩) hD hS hA (fun ur1 r1 H locs hr1 hP hD hS hzr1 => ?_)
  obtain ⟨hv9, F, hw9, hF⟩ := hr1
  have hv9 : r1 = gN g 1 i := hv9
  have hw9 : ur1 = va_pl L F := hw9
  subst hv9
  subst hw9
  have hs9 : setAt k L F (gO g) (gN g 1 i) (gN g 2 i) (gatN S (gD g i) (gR g 2) 30 i) (5 + 3 * i) := hF.s2 hi
  refine lv_iload_n hx hb dX9_regionAt_5 rfl (lv_at hl 2 rfl) ?_
  refine vp_callSi (va_Run.run (va_runV (As := [.int (zI (y))]) (rest := []) ⟨hx, hb, hml, hown, hts⟩ (kX6_told l D k L F (gN g 1 i) (gN g 2 i) ((gatN S (gD g i) (gR g 2) 30 i)) hs9.1 hs9.2.1 hs9.2.2.1 hs9.2.2.2.1 (y) (by omega)) (cwV 1 hts gX9_regionAt_X6_told rfl rfl rfl (by decide +kernel) ⟨Nat.le_of_ble_eq_true rfl, Nat.le_of_ble_eq_true rfl⟩) (rc_preV hC hP (pl_recv hK hP hs9.1 hs9.2.1 (ci := 5) (q := (RX6, TX6, 1)) rfl)) rfl rfl hl.1 rfl (lv_room (Nat.le_of_ble_eq_true rfl)) dX9_regionAt_6 ⟨Nat.zero_le _, Nat.zero_le _⟩)) (fun r2 hr2 => ?_)
  obtain rfl := told_n hr2 hq2
  refine lv_istore_n (lv' := [(3, .int (zI (-1))), (0, .ref (gA g 0)), (1, .int (zI ((i : Int)))), (2, .int (zI (y)))]) hx hb dX9_regionAt_9 rfl hl (by decide) rfl (fun ls hl => ?_)
  refine lv_iload_n hx hb dX9_regionAt_10 rfl (lv_at hl 0 rfl) ?_
  refine zr_if_ge (tgt := 24) hx hb dX9_regionAt_11 (by decide) (by omega) (fun c3 => ?_) (fun c3 => ?_)
  · exact absurd c3 (by omega)
  · rw [hQ]
    exact px_throw (own := RX9) (cls := "java/lang/IndexOutOfBoundsException") (text := "no such region") (ik := 67) (is := 50) (ic := 71) hx hb hlt hown (by decide) hw_0 hw_1 (by decide) hX (px_hat hts hNW hX (by decide +kernel) (by decide +kernel) (by decide +kernel)) (by decide +kernel) hP (by rw [← hAd]; exact hD) (by rw [← hAd]; exact hS) (by rw [← hAd]; exact hAn) (hl.1.trans hml.symm) dX9_regionAt_14 dX9_regionAt_17 dX9_regionAt_18 dX9_regionAt_20 dX9_regionAt_23 hno (Nat.le_of_ble_eq_true rfl) (Nat.le_of_ble_eq_true rfl) (Nat.le_of_ble_eq_true rfl) (Nat.le_of_ble_eq_true rfl) hlocks (Nat.le_of_ble_eq_true rfl) (Nat.le_of_ble_eq_true rfl) (⟨rfl, F, rfl, hF⟩)

set_option maxHeartbeats 4000000 in
set_option maxRecDepth 100000 in
theorem kX9_regionAt_x (l : Launch) (D : va_G) (k : Nat → ClassId) (L : List Nat) (f : Nat → va_E) (g : CG) (S : SA) (hR : cRep k L f g S) (hO : aOK S) (z : Int) (hz : -2147483648 ≤ z ∧ z < 2147483648) (hz2 : ¬ (0 ≤ z ∧ z < (sC S : Int))) (y : Int) (hlt : l.stackTraces = false) (n0 sz : Nat) : vx_Met l yX9_regionAt wsX9_regionAt ({ frames := 8, cells := 1, slots := 6, locals := 127 } : Room) (va_Pc [.ref (gA g 0), .int (zI (z)), .int (zI (y))] (xPre D (tyL k) n0 (va_pl L f) sz)) (va_Qv (fun _ => False) (pB D (va_pl L f) sz) (va_A (va_pl L f) sz)) (xX D (va_pl L f) sz (fun E u => E = "java/lang/IndexOutOfBoundsException" ∧ u = va_pl L f)) 1 6 (va_A (va_pl L f) sz) := by
  refine vx_ofW (cc := cX9_regionAt) (maxL := 4) (ret := (some .int)) (by decide) rfl ?_
  intro p e s m args below meth c s₁ B hml hno hv
  obtain ⟨rfl, ⟨hsz, hn9, hP, hC, hD0⟩, hX⟩ := hv
  have hK := hC.1
  have hNW := hC.2.1
  have hx := B.exec
  have hb := B.bytes
  have hrt := B.returns
  have hts := atoms_spec (ws := wsX9_regionAt) B.pre
  have hown : s.vm.findClass RX9 = some m.cls := findClass_of_methodNamed B.named
  have hlocks := B.notSynchronized
  subst hsz
  obtain ⟨A, hAd⟩ : ∃ A, A = va_A (va_pl L f) s.heap.size := ⟨_, rfl⟩
  have hD := hD0.self (sz := s.heap.size)
  rw [← hAd] at hD
  have hA : ∀ q : Nat, s.heap.size ≤ q → A q := fun q h => by rw [hAd]; exact Or.inr h
  have hAn : ∀ q : Nat, A q → n0 ≤ q := fun q h => by
    rw [hAd] at h
    rcases h with ⟨k9, e9, hk9⟩ | h
    · exact hD0.2 k9 _ hk9
    · exact Nat.le_trans hn9 h
  have hS : va_S A s.heap s.heap [] := va_S.rf
  have hl := lv_entry ([.ref (gA g 0), .int (zI (z)), .int (zI (y))]) (n := 4) (Nat.le_of_ble_eq_true rfl)
  rw [lg_entry_eq]
  generalize (lg_sl ([.ref (gA g 0), .int (zI (z)), .int (zI (y))]) ++ List.replicate (4 - (lg_sl ([.ref (gA g 0), .int (zI (z)), .int (zI (y))])).length) Slot.unset).toArray = ls at hl ⊢
  have hl : lv_has ls 4 [(0, .ref (gA g 0)), (1, .int (zI (z))), (2, .int (zI (y)))] := hl
  obtain ⟨Q, hQ⟩ : ∃ Q, Q = vx_MQ below (va_Qv (fun _ => False) (pB D (va_pl L f) s.heap.size) (va_A (va_pl L f) s.heap.size)) (xX D (va_pl L f) s.heap.size (fun E u => E = "java/lang/IndexOutOfBoundsException" ∧ u = va_pl L f)) ([.ref (gA g 0), .int (zI (z)), .int (zI (y))] : List Value).toArray s 1 6 (va_A (va_pl L f) s.heap.size) := ⟨_, rfl⟩
  rw [← hQ]
  obtain ⟨⟨a0, a1, a2, a3, a4⟩, aL, ao, aM, aE, aX⟩ := id hR
  have hn0 := hO.1
  have hc0 := hO.2.2.2.1
  refine lv_aload_n hx hb dX9_regionAt_0 rfl (lv_at hl 0 rfl) ?_
  refine lv_iload_n hx hb dX9_regionAt_1 rfl (lv_at hl 1 rfl) ?_
  rw [hQ]
  exact px_outv (vx_runV (As := [.int (zI (z))]) (rest := []) ⟨hx, hb, hml, hown, hts⟩ (kX9_gatheredOf_x l D k L f g S hR hO z hz hz2 hlt n0 _) (cwV 1 hts gX9_regionAt_X9_gatheredOf rfl rfl rfl (by decide +kernel) ⟨Nat.le_of_ble_eq_true rfl, Nat.le_of_ble_eq_true rfl⟩) (xc_preV hC hX hP (Nat.le_trans hn9 hS.1) hD hS hAn (pl_recv hK hP (aL 0 (by decide)) a0 (ci := 8) (q := (RX9, TX9, 3)) rfl)) rfl rfl hl.1 rfl (lv_room (Nat.le_of_ble_eq_true rfl)) dX9_regionAt_2 ⟨Nat.le_of_ble_eq_true rfl, Nat.le_of_ble_eq_true rfl⟩) (by rw [← hAd]; exact hD) (by rw [← hAd]; exact hS) hlocks hno (Nat.le_of_ble_eq_true rfl) (Nat.le_of_ble_eq_true rfl) (fun E u h => h)
