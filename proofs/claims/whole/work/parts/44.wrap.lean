set_option maxHeartbeats 4000000 in
set_option maxRecDepth 100000 in
theorem kL_insert (l : Launch) (D : va_G) (k : Nat → ClassId) (cL : ClassId) (L : List Nat) (f : Nat → va_E) (g : CG) (S : SA) (hR : cRep k L f g S) (hO : aOK S) (o : Nat) (gl : Nat → Int64) (z : Int) (hz : -2147483648 ≤ z ∧ z < 2147483648) (y : Int) (hy : -2147483648 ≤ y ∧ y < 2147483648) (hlt : l.stackTraces = false) (n0 sz : Nat) : vx_Met l yL_insert wsL_insert ({ frames := 9, cells := 7, slots := 82, locals := 189 } : Room) (va_Pc [.ref (gA g 0), .int (zI z), .int (zI y), .ref o] (xPre D (TYL k cL) n0 (va_pl L f ++ [(o, .inl (cL, 1, .inr (.inl gl)))]) sz)) (va_Qi (wP k cL o (gA g 0) (SpInsert S z y)) (pB D (va_pl L f ++ [(o, .inl (cL, 1, .inr (.inl gl)))]) sz) (va_A (va_pl L f ++ [(o, .inl (cL, 1, .inr (.inl gl)))]) sz)) (vx_X (fun _ : va_W => False) (fun _ _ _ => True) (va_A (va_pl L f ++ [(o, .inl (cL, 1, .inr (.inl gl)))]) sz)) 7 82 (va_A (va_pl L f ++ [(o, .inl (cL, 1, .inr (.inl gl)))]) sz) := by
  refine vx_ofWH (cc := cL_insert) (maxL := 5) (ret := some .int) (hh := [(0, 10, 13, 13), (0, 10, 17, 15), (0, 10, 21, 17)]) (by decide) rfl ?_
  intro p e s m args below meth c s₁ B hml hv
  obtain ⟨rfl, ⟨hsz, hn9, hP, hC, hD0⟩, hX⟩ := hv
  have hK := hC.1
  have hNW := hC.2.1
  have hx := B.exec
  have hb := B.bytes
  have hrt := B.returns
  have hts := atoms_spec (ws := wsL_insert) B.pre
  have hown : s.vm.findClass RL = some m.cls := findClass_of_methodNamed B.named
  have hlocks := B.notSynchronized
  have htb := vx_table (x := yL_insert) (y := yL_insert) (bytes := cL_insert) (maxL' := 5) (ret' := some .int) (hh := [(0, 10, 13, 13), (0, 10, 17, 15), (0, 10, 21, 17)]) B (hts _ List.mem_cons_self)
  subst hsz
  obtain ⟨A, hAd⟩ : ∃ A, A = va_A (va_pl L f ++ [(o, .inl (cL, 1, .inr (.inl gl)))]) s.heap.size := ⟨_, rfl⟩
  have hD := hD0.self (sz := s.heap.size)
  rw [← hAd] at hD
  have hA : ∀ q : Nat, s.heap.size ≤ q → A q := fun q h => by rw [hAd]; exact Or.inr h
  have hAn : ∀ q : Nat, A q → n0 ≤ q := fun q h => by
    rw [hAd] at h
    rcases h with ⟨k9, e9, hk9⟩ | h
    · exact hD0.2 k9 _ hk9
    · exact Nat.le_trans hn9 h
  have hS : va_S A s.heap s.heap [] := va_S.rf
  have hl := lv_entry ([.ref (gA g 0), .int (zI z), .int (zI y), .ref o]) (n := 5) (Nat.le_of_ble_eq_true rfl)
  rw [lg_entry_eq]
  generalize (lg_sl ([.ref (gA g 0), .int (zI z), .int (zI y), .ref o]) ++ List.replicate (5 - (lg_sl ([.ref (gA g 0), .int (zI z), .int (zI y), .ref o])).length) Slot.unset).toArray = ls at hl ⊢
  have hl : lv_has ls 5 [(0, .ref (gA g 0)), (1, .int (zI z)), (2, .int (zI y)), (3, .ref o)] := hl
  obtain ⟨Q, hQ⟩ : ∃ Q, Q = vx_MQ below (va_Qi (wP k cL o (gA g 0) (SpInsert S z y)) (pB D (va_pl L f ++ [(o, .inl (cL, 1, .inr (.inl gl)))]) s.heap.size) (va_A (va_pl L f ++ [(o, .inl (cL, 1, .inr (.inl gl)))]) s.heap.size)) (vx_X (fun _ : va_W => False) (fun _ _ _ => True) (va_A (va_pl L f ++ [(o, .inl (cL, 1, .inr (.inl gl)))]) s.heap.size)) ([.ref (gA g 0), .int (zI z), .int (zI y), .ref o] : List Value).toArray s 7 82 (va_A (va_pl L f ++ [(o, .inl (cL, 1, .inr (.inl gl)))]) s.heap.size) := ⟨_, rfl⟩
  rw [← hQ]
  have hn0 := hO.1
  have hc0 := hO.2.2.2.1
  refine lv_aload_n hx hb dL_insert_0 rfl (lv_at hl 3 rfl) ?_
  refine zr_const hx hb dL_insert_1 ?_
  refine lv_aload_n hx hb dL_insert_2 rfl (lv_at hl 0 rfl) ?_
  refine lv_iload_n hx hb dL_insert_3 rfl (lv_at hl 1 rfl) ?_
  refine lv_iload_n hx hb dL_insert_4 rfl (lv_at hl 2 rfl) ?_
  have hrc : ∃ cell : Cell, s.heap[gA g 0]? = some cell ∧ cell.vm.isStatics = false ∧ s.vm.findClass RX9 = some cell.cls := pl_recv hK (vaP_l hP) (hR.2.1 0 (by decide)) hR.1.1 (ci := 8) (q := (RX9, TX9, 3)) rfl
  rcases (show (¬ (0 ≤ z ∧ z ≤ sN S)) ∨ ((0 ≤ z ∧ z ≤ sN S) ∧ ¬ (0 ≤ y ∧ y < 6)) ∨ ((0 ≤ z ∧ z ≤ sN S) ∧ (0 ≤ y ∧ y < 6) ∧ sN S = 24) ∨ ((0 ≤ z ∧ z ≤ sN S) ∧ (0 ≤ y ∧ y < 6) ∧ sN S < 24) by omega) with h1 | h1 | h1 | h1
  · refine wr_callx (vx_runV (As := [.int (zI z), .int (zI y)]) (rest := [.int (zI 0), .ref o]) ⟨hx, hb, hml, hown, hts⟩ (kX9_insert_x l D k L f g S hR hO z hz y hy "java/lang/IndexOutOfBoundsException" (Or.inl ⟨h1, rfl⟩) hlt n0 _) (cwV 2 hts gL_insert_X9_insert rfl rfl rfl (by decide +kernel) ⟨Nat.le_of_ble_eq_true rfl, Nat.le_of_ble_eq_true rfl⟩) (xc_preV hC.sub4 hX (vaP_l hP) hn9 (vaD_l hD) hS hAn hrc) rfl rfl hl.1 rfl (lv_room (Nat.le_of_ble_eq_true rfl)) dL_insert_5 ⟨Nat.le_of_ble_eq_true rfl, Nat.le_of_ble_eq_true rfl⟩) hP hD hS hA (fun E ce q9 u H locs hu hP hD hS hcell hv9 hcl => ?_)
    obtain ⟨rfl, rfl⟩ := hu
    refine vx_catch (own := RL) (name := "java/lang/IndexOutOfBoundsException") hown [] ⟨0, 10, 13, 13⟩ [⟨0, 10, 17, 15⟩, ⟨0, 10, 21, 17⟩] htb (fun z hz => absurd hz List.not_mem_nil) (by decide) (by decide) (hts (.classLink RL 13 "java/lang/IndexOutOfBoundsException") (by decide +kernel)) (va_Nw.use rfl (hNW (.castable "java/lang/IndexOutOfBoundsException" "java/lang/IndexOutOfBoundsException") (by decide +kernel))) hcell hv9 hcl ?_
    refine lv_astore (lv' := [(4, .ref q9), (0, .ref (gA g 0)), (1, .int (zI z)), (2, .int (zI y)), (3, .ref o)]) hx hb dL_insert_13 hl (by decide) rfl (fun ls hl => ?_)
    refine zr_const hx hb dL_insert_15 ?_
    refine w_widen (k9 := 7) (n9 := 82) (by decide) (by decide) ?_
    rw [hQ]
    refine vx_ret ?_
    exact pc_iret hx hb hrt hP (by rw [← hAd]; exact hD) (by rw [← hAd]; exact hS) (⟨1, 0, S, L, f, g, gl, rfl, by decide, rfl, rfl, hR, hO, fun h => absurd h (by decide), Or.inl ⟨h1, rfl, rfl⟩⟩) dL_insert_16 hlocks
  · refine wr_callx (vx_runV (As := [.int (zI z), .int (zI y)]) (rest := [.int (zI 0), .ref o]) ⟨hx, hb, hml, hown, hts⟩ (kX9_insert_x l D k L f g S hR hO z hz y hy "java/lang/IllegalArgumentException" (Or.inr (Or.inl ⟨h1.1, h1.2, rfl⟩)) hlt n0 _) (cwV 2 hts gL_insert_X9_insert rfl rfl rfl (by decide +kernel) ⟨Nat.le_of_ble_eq_true rfl, Nat.le_of_ble_eq_true rfl⟩) (xc_preV hC.sub4 hX (vaP_l hP) hn9 (vaD_l hD) hS hAn hrc) rfl rfl hl.1 rfl (lv_room (Nat.le_of_ble_eq_true rfl)) dL_insert_5 ⟨Nat.le_of_ble_eq_true rfl, Nat.le_of_ble_eq_true rfl⟩) hP hD hS hA (fun E ce q9 u H locs hu hP hD hS hcell hv9 hcl => ?_)
    obtain ⟨rfl, rfl⟩ := hu
    refine vx_catch (own := RL) (name := "java/lang/IllegalArgumentException") hown [⟨0, 10, 13, 13⟩] ⟨0, 10, 17, 15⟩ [⟨0, 10, 21, 17⟩] htb (List.forall_mem_cons.mpr ⟨Or.inr ⟨by decide, _, hts (.classLink RL 13 "java/lang/IndexOutOfBoundsException") (by decide +kernel), hX.2.2.1 ("java/lang/IllegalArgumentException", "java/lang/IndexOutOfBoundsException") (by decide)⟩, fun z hz => absurd hz List.not_mem_nil⟩) (by decide) (by decide) (hts (.classLink RL 15 "java/lang/IllegalArgumentException") (by decide +kernel)) (va_Nw.use rfl (hNW (.castable "java/lang/IllegalArgumentException" "java/lang/IllegalArgumentException") (by decide +kernel))) hcell hv9 hcl ?_
    refine lv_astore (lv' := [(4, .ref q9), (0, .ref (gA g 0)), (1, .int (zI z)), (2, .int (zI y)), (3, .ref o)]) hx hb dL_insert_17 hl (by decide) rfl (fun ls hl => ?_)
    refine zr_const hx hb dL_insert_19 ?_
    refine w_widen (k9 := 7) (n9 := 82) (by decide) (by decide) ?_
    rw [hQ]
    refine vx_ret ?_
    exact pc_iret hx hb hrt hP (by rw [← hAd]; exact hD) (by rw [← hAd]; exact hS) (⟨2, 0, S, L, f, g, gl, rfl, by decide, rfl, rfl, hR, hO, fun h => absurd h (by decide), Or.inr (Or.inl ⟨h1.1, h1.2, rfl, rfl⟩)⟩) dL_insert_20 hlocks
  · refine wr_callx (vx_runV (As := [.int (zI z), .int (zI y)]) (rest := [.int (zI 0), .ref o]) ⟨hx, hb, hml, hown, hts⟩ (kX9_insert_x l D k L f g S hR hO z hz y hy "java/lang/IllegalStateException" (Or.inr (Or.inr ⟨h1.1, h1.2.1, h1.2.2, rfl⟩)) hlt n0 _) (cwV 2 hts gL_insert_X9_insert rfl rfl rfl (by decide +kernel) ⟨Nat.le_of_ble_eq_true rfl, Nat.le_of_ble_eq_true rfl⟩) (xc_preV hC.sub4 hX (vaP_l hP) hn9 (vaD_l hD) hS hAn hrc) rfl rfl hl.1 rfl (lv_room (Nat.le_of_ble_eq_true rfl)) dL_insert_5 ⟨Nat.le_of_ble_eq_true rfl, Nat.le_of_ble_eq_true rfl⟩) hP hD hS hA (fun E ce q9 u H locs hu hP hD hS hcell hv9 hcl => ?_)
    obtain ⟨rfl, rfl⟩ := hu
    refine vx_catch (own := RL) (name := "java/lang/IllegalStateException") hown [⟨0, 10, 13, 13⟩, ⟨0, 10, 17, 15⟩] ⟨0, 10, 21, 17⟩ [] htb (List.forall_mem_cons.mpr ⟨Or.inr ⟨by decide, _, hts (.classLink RL 13 "java/lang/IndexOutOfBoundsException") (by decide +kernel), hX.2.2.1 ("java/lang/IllegalStateException", "java/lang/IndexOutOfBoundsException") (by decide)⟩, List.forall_mem_cons.mpr ⟨Or.inr ⟨by decide, _, hts (.classLink RL 15 "java/lang/IllegalArgumentException") (by decide +kernel), hX.2.2.1 ("java/lang/IllegalStateException", "java/lang/IllegalArgumentException") (by decide)⟩, fun z hz => absurd hz List.not_mem_nil⟩⟩) (by decide) (by decide) (hts (.classLink RL 17 "java/lang/IllegalStateException") (by decide +kernel)) (va_Nw.use rfl (hNW (.castable "java/lang/IllegalStateException" "java/lang/IllegalStateException") (by decide +kernel))) hcell hv9 hcl ?_
    refine lv_astore (lv' := [(4, .ref q9), (0, .ref (gA g 0)), (1, .int (zI z)), (2, .int (zI y)), (3, .ref o)]) hx hb dL_insert_21 hl (by decide) rfl (fun ls hl => ?_)
    refine zr_const hx hb dL_insert_23 ?_
    refine w_widen (k9 := 7) (n9 := 82) (by decide) (by decide) ?_
    rw [hQ]
    refine vx_ret ?_
    exact pc_iret hx hb hrt hP (by rw [← hAd]; exact hD) (by rw [← hAd]; exact hS) (⟨3, 0, S, L, f, g, gl, rfl, by decide, rfl, rfl, hR, hO, fun h => absurd h (by decide), Or.inr (Or.inr (Or.inl ⟨h1.1, h1.2.1, h1.2.2, rfl, rfl⟩))⟩) dL_insert_24 hlocks
  · refine wr_calli (va_runV (As := [.int (zI z), .int (zI y)]) (rest := [.int (zI 0), .ref o]) ⟨hx, hb, hml, hown, hts⟩ (kX9_insert l D k L f g S hR hO z y h1.1 h1.2.1 h1.2.2 n0 _) (cwV 2 hts gL_insert_X9_insert rfl rfl rfl (by decide +kernel) ⟨Nat.le_of_ble_eq_true rfl, Nat.le_of_ble_eq_true rfl⟩) (pc_preV hC.sub4 (vaP_l hP) hn9 (vaD_l hD) hAn hrc) rfl rfl hl.1 rfl (lv_room (Nat.le_of_ble_eq_true rfl)) dL_insert_5 ⟨Nat.le_of_ble_eq_true rfl, Nat.le_of_ble_eq_true rfl⟩) hP hD hS hA (fun r u H locs hu hP hD hS hz => ?_)
    obtain ⟨rfl, G, F, hG, rfl, hc9⟩ := hu
    have hO9 : aOK (insS S z y G) := by
      obtain ⟨zn, rfl⟩ : ∃ zn : Nat, z = (zn : Int) := ⟨z.toNat, by omega⟩
      exact hO.ins h1.1.2 h1.2.2 h1.2.1 hG
    refine lv_i2l (v := (zI (sN S + 1)).toInt64) hx hb dL_insert_8 rfl ?_
    refine wr_last (X := va_pl L F) hx hb hK hP hD hS dL_insert_9 (fun H locs hP hD hS => ?_)
    refine lv_goto (tgt := 25) hx hb dL_insert_10 (by decide) ?_
    refine zr_const hx hb dL_insert_25 ?_
    refine w_widen (k9 := 7) (n9 := 82) (by decide) (by decide) ?_
    rw [hQ]
    refine vx_ret ?_
    exact pc_iret hx hb hrt hP (by rw [← hAd]; exact hD) (by rw [← hAd]; exact hS) (⟨0, zI (sN S + 1), insS S z y G, L, F, g, _, rfl, by decide, rfl, rfl, hc9, hO9, fun _ => rfl, Or.inr (Or.inr (Or.inr ⟨h1.1, h1.2.1, h1.2.2, rfl, rfl, G, hG, rfl⟩))⟩) dL_insert_26 hlocks

set_option maxHeartbeats 4000000 in
set_option maxRecDepth 100000 in
theorem kL_remove (l : Launch) (D : va_G) (k : Nat → ClassId) (cL : ClassId) (L : List Nat) (f : Nat → va_E) (g : CG) (S : SA) (hR : cRep k L f g S) (hO : aOK S) (o : Nat) (gl : Nat → Int64) (z : Int) (hz : -2147483648 ≤ z ∧ z < 2147483648) (hlt : l.stackTraces = false) (n0 sz : Nat) : vx_Met l yL_remove wsL_remove ({ frames := 9, cells := 7, slots := 82, locals := 189 } : Room) (va_Pc [.ref (gA g 0), .int (zI z), .ref o] (xPre D (TYL k cL) n0 (va_pl L f ++ [(o, .inl (cL, 1, .inr (.inl gl)))]) sz)) (va_Qi (wP k cL o (gA g 0) (SpRemove S z)) (pB D (va_pl L f ++ [(o, .inl (cL, 1, .inr (.inl gl)))]) sz) (va_A (va_pl L f ++ [(o, .inl (cL, 1, .inr (.inl gl)))]) sz)) (vx_X (fun _ : va_W => False) (fun _ _ _ => True) (va_A (va_pl L f ++ [(o, .inl (cL, 1, .inr (.inl gl)))]) sz)) 7 82 (va_A (va_pl L f ++ [(o, .inl (cL, 1, .inr (.inl gl)))]) sz) := by
  refine vx_ofWH (cc := cL_remove) (maxL := 4) (ret := some .int) (hh := [(0, 9, 12, 13)]) (by decide) rfl ?_
  intro p e s m args below meth c s₁ B hml hv
  obtain ⟨rfl, ⟨hsz, hn9, hP, hC, hD0⟩, hX⟩ := hv
  have hK := hC.1
  have hNW := hC.2.1
  have hx := B.exec
  have hb := B.bytes
  have hrt := B.returns
  have hts := atoms_spec (ws := wsL_remove) B.pre
  have hown : s.vm.findClass RL = some m.cls := findClass_of_methodNamed B.named
  have hlocks := B.notSynchronized
  have htb := vx_table (x := yL_remove) (y := yL_remove) (bytes := cL_remove) (maxL' := 4) (ret' := some .int) (hh := [(0, 9, 12, 13)]) B (hts _ List.mem_cons_self)
  subst hsz
  obtain ⟨A, hAd⟩ : ∃ A, A = va_A (va_pl L f ++ [(o, .inl (cL, 1, .inr (.inl gl)))]) s.heap.size := ⟨_, rfl⟩
  have hD := hD0.self (sz := s.heap.size)
  rw [← hAd] at hD
  have hA : ∀ q : Nat, s.heap.size ≤ q → A q := fun q h => by rw [hAd]; exact Or.inr h
  have hAn : ∀ q : Nat, A q → n0 ≤ q := fun q h => by
    rw [hAd] at h
    rcases h with ⟨k9, e9, hk9⟩ | h
    · exact hD0.2 k9 _ hk9
    · exact Nat.le_trans hn9 h
  have hS : va_S A s.heap s.heap [] := va_S.rf
  have hl := lv_entry ([.ref (gA g 0), .int (zI z), .ref o]) (n := 4) (Nat.le_of_ble_eq_true rfl)
  rw [lg_entry_eq]
  generalize (lg_sl ([.ref (gA g 0), .int (zI z), .ref o]) ++ List.replicate (4 - (lg_sl ([.ref (gA g 0), .int (zI z), .ref o])).length) Slot.unset).toArray = ls at hl ⊢
  have hl : lv_has ls 4 [(0, .ref (gA g 0)), (1, .int (zI z)), (2, .ref o)] := hl
  obtain ⟨Q, hQ⟩ : ∃ Q, Q = vx_MQ below (va_Qi (wP k cL o (gA g 0) (SpRemove S z)) (pB D (va_pl L f ++ [(o, .inl (cL, 1, .inr (.inl gl)))]) s.heap.size) (va_A (va_pl L f ++ [(o, .inl (cL, 1, .inr (.inl gl)))]) s.heap.size)) (vx_X (fun _ : va_W => False) (fun _ _ _ => True) (va_A (va_pl L f ++ [(o, .inl (cL, 1, .inr (.inl gl)))]) s.heap.size)) ([.ref (gA g 0), .int (zI z), .ref o] : List Value).toArray s 7 82 (va_A (va_pl L f ++ [(o, .inl (cL, 1, .inr (.inl gl)))]) s.heap.size) := ⟨_, rfl⟩
  rw [← hQ]
  have hn0 := hO.1
  have hc0 := hO.2.2.2.1
  refine lv_aload_n hx hb dL_remove_0 rfl (lv_at hl 2 rfl) ?_
  refine zr_const hx hb dL_remove_1 ?_
  refine lv_aload_n hx hb dL_remove_2 rfl (lv_at hl 0 rfl) ?_
  refine lv_iload_n hx hb dL_remove_3 rfl (lv_at hl 1 rfl) ?_
  have hrc : ∃ cell : Cell, s.heap[gA g 0]? = some cell ∧ cell.vm.isStatics = false ∧ s.vm.findClass RX9 = some cell.cls := pl_recv hK (vaP_l hP) (hR.2.1 0 (by decide)) hR.1.1 (ci := 8) (q := (RX9, TX9, 3)) rfl
  rcases (show (¬ (0 ≤ z ∧ z < sN S)) ∨ (0 ≤ z ∧ z < sN S) by omega) with h1 | h1
  · refine wr_callx (vx_runV (As := [.int (zI z)]) (rest := [.int (zI 0), .ref o]) ⟨hx, hb, hml, hown, hts⟩ (kX9_remove_x l D k L f g S hR hO z hz h1 hlt n0 _) (cwV 1 hts gL_remove_X9_remove rfl rfl rfl (by decide +kernel) ⟨Nat.le_of_ble_eq_true rfl, Nat.le_of_ble_eq_true rfl⟩) (xc_preV hC.sub4 hX (vaP_l hP) hn9 (vaD_l hD) hS hAn hrc) rfl rfl hl.1 rfl (lv_room (Nat.le_of_ble_eq_true rfl)) dL_remove_4 ⟨Nat.le_of_ble_eq_true rfl, Nat.le_of_ble_eq_true rfl⟩) hP hD hS hA (fun E ce q9 u H locs hu hP hD hS hcell hv9 hcl => ?_)
    obtain ⟨rfl, rfl⟩ := hu
    refine vx_catch (own := RL) (name := "java/lang/IndexOutOfBoundsException") hown [] ⟨0, 9, 12, 13⟩ [] htb (fun z hz => absurd hz List.not_mem_nil) (by decide) (by decide) (hts (.classLink RL 13 "java/lang/IndexOutOfBoundsException") (by decide +kernel)) (va_Nw.use rfl (hNW (.castable "java/lang/IndexOutOfBoundsException" "java/lang/IndexOutOfBoundsException") (by decide +kernel))) hcell hv9 hcl ?_
    refine lv_astore_n (lv' := [(3, .ref q9), (0, .ref (gA g 0)), (1, .int (zI z)), (2, .ref o)]) hx hb dL_remove_12 rfl hl (by decide) rfl (fun ls hl => ?_)
    refine zr_const hx hb dL_remove_13 ?_
    refine w_widen (k9 := 7) (n9 := 82) (by decide) (by decide) ?_
    rw [hQ]
    refine vx_ret ?_
    exact pc_iret hx hb hrt hP (by rw [← hAd]; exact hD) (by rw [← hAd]; exact hS) (⟨1, 0, S, L, f, g, gl, rfl, by decide, rfl, rfl, hR, hO, fun h => absurd h (by decide), Or.inl ⟨h1, rfl, rfl⟩⟩) dL_remove_14 hlocks
  · refine wr_calli (va_runV (As := [.int (zI z)]) (rest := [.int (zI 0), .ref o]) ⟨hx, hb, hml, hown, hts⟩ (kX9_remove l D k L f g S hR hO z h1 n0 _) (cwV 1 hts gL_remove_X9_remove rfl rfl rfl (by decide +kernel) ⟨Nat.le_of_ble_eq_true rfl, Nat.le_of_ble_eq_true rfl⟩) (pc_preV hC.sub4 (vaP_l hP) hn9 (vaD_l hD) hAn hrc) rfl rfl hl.1 rfl (lv_room (Nat.le_of_ble_eq_true rfl)) dL_remove_4 ⟨Nat.le_of_ble_eq_true rfl, Nat.le_of_ble_eq_true rfl⟩) hP hD hS hA (fun r u H locs hu hP hD hS hz => ?_)
    obtain ⟨rfl, F, rfl, hc9⟩ := hu
    have hO9 : aOK (remS S z (fun i => fa_fill (clF (sR S i) z) (sR S i) 24)) := by
      obtain ⟨zn, rfl⟩ : ∃ zn : Nat, z = (zn : Int) := ⟨z.toNat, by omega⟩
      exact hO.rem h1.2
    refine lv_i2l (v := (sT S z.toNat).toInt64) hx hb dL_remove_7 rfl ?_
    refine wr_last (X := va_pl L F) hx hb hK hP hD hS dL_remove_8 (fun H locs hP hD hS => ?_)
    refine lv_goto (tgt := 15) hx hb dL_remove_9 (by decide) ?_
    refine zr_const hx hb dL_remove_15 ?_
    refine w_widen (k9 := 7) (n9 := 82) (by decide) (by decide) ?_
    rw [hQ]
    refine vx_ret ?_
    exact pc_iret hx hb hrt hP (by rw [← hAd]; exact hD) (by rw [← hAd]; exact hS) (⟨0, sT S z.toNat, remS S z (fun i => fa_fill (clF (sR S i) z) (sR S i) 24), L, F, g, _, rfl, by decide, rfl, rfl, hc9, hO9, fun _ => rfl, Or.inr ⟨h1, rfl, rfl, rfl⟩⟩) dL_remove_16 hlocks

set_option maxHeartbeats 4000000 in
set_option maxRecDepth 100000 in
theorem kL_letterAt (l : Launch) (D : va_G) (k : Nat → ClassId) (cL : ClassId) (L : List Nat) (f : Nat → va_E) (g : CG) (S : SA) (hR : cRep k L f g S) (hO : aOK S) (o : Nat) (gl : Nat → Int64) (z : Int) (hz : -2147483648 ≤ z ∧ z < 2147483648) (hlt : l.stackTraces = false) (n0 sz : Nat) : vx_Met l yL_letterAt wsL_letterAt ({ frames := 9, cells := 7, slots := 82, locals := 189 } : Room) (va_Pc [.ref (gA g 0), .int (zI z), .ref o] (xPre D (TYL k cL) n0 (va_pl L f ++ [(o, .inl (cL, 1, .inr (.inl gl)))]) sz)) (va_Qi (wP k cL o (gA g 0) (SpLetterAt S z)) (pB D (va_pl L f ++ [(o, .inl (cL, 1, .inr (.inl gl)))]) sz) (va_A (va_pl L f ++ [(o, .inl (cL, 1, .inr (.inl gl)))]) sz)) (vx_X (fun _ : va_W => False) (fun _ _ _ => True) (va_A (va_pl L f ++ [(o, .inl (cL, 1, .inr (.inl gl)))]) sz)) 7 82 (va_A (va_pl L f ++ [(o, .inl (cL, 1, .inr (.inl gl)))]) sz) := by
  refine vx_ofWH (cc := cL_letterAt) (maxL := 4) (ret := some .int) (hh := [(0, 9, 12, 13)]) (by decide) rfl ?_
  intro p e s m args below meth c s₁ B hml hv
  obtain ⟨rfl, ⟨hsz, hn9, hP, hC, hD0⟩, hX⟩ := hv
  have hK := hC.1
  have hNW := hC.2.1
  have hx := B.exec
  have hb := B.bytes
  have hrt := B.returns
  have hts := atoms_spec (ws := wsL_letterAt) B.pre
  have hown : s.vm.findClass RL = some m.cls := findClass_of_methodNamed B.named
  have hlocks := B.notSynchronized
  have htb := vx_table (x := yL_letterAt) (y := yL_letterAt) (bytes := cL_letterAt) (maxL' := 4) (ret' := some .int) (hh := [(0, 9, 12, 13)]) B (hts _ List.mem_cons_self)
  subst hsz
  obtain ⟨A, hAd⟩ : ∃ A, A = va_A (va_pl L f ++ [(o, .inl (cL, 1, .inr (.inl gl)))]) s.heap.size := ⟨_, rfl⟩
  have hD := hD0.self (sz := s.heap.size)
  rw [← hAd] at hD
  have hA : ∀ q : Nat, s.heap.size ≤ q → A q := fun q h => by rw [hAd]; exact Or.inr h
  have hAn : ∀ q : Nat, A q → n0 ≤ q := fun q h => by
    rw [hAd] at h
    rcases h with ⟨k9, e9, hk9⟩ | h
    · exact hD0.2 k9 _ hk9
    · exact Nat.le_trans hn9 h
  have hS : va_S A s.heap s.heap [] := va_S.rf
  have hl := lv_entry ([.ref (gA g 0), .int (zI z), .ref o]) (n := 4) (Nat.le_of_ble_eq_true rfl)
  rw [lg_entry_eq]
  generalize (lg_sl ([.ref (gA g 0), .int (zI z), .ref o]) ++ List.replicate (4 - (lg_sl ([.ref (gA g 0), .int (zI z), .ref o])).length) Slot.unset).toArray = ls at hl ⊢
  have hl : lv_has ls 4 [(0, .ref (gA g 0)), (1, .int (zI z)), (2, .ref o)] := hl
  obtain ⟨Q, hQ⟩ : ∃ Q, Q = vx_MQ below (va_Qi (wP k cL o (gA g 0) (SpLetterAt S z)) (pB D (va_pl L f ++ [(o, .inl (cL, 1, .inr (.inl gl)))]) s.heap.size) (va_A (va_pl L f ++ [(o, .inl (cL, 1, .inr (.inl gl)))]) s.heap.size)) (vx_X (fun _ : va_W => False) (fun _ _ _ => True) (va_A (va_pl L f ++ [(o, .inl (cL, 1, .inr (.inl gl)))]) s.heap.size)) ([.ref (gA g 0), .int (zI z), .ref o] : List Value).toArray s 7 82 (va_A (va_pl L f ++ [(o, .inl (cL, 1, .inr (.inl gl)))]) s.heap.size) := ⟨_, rfl⟩
  rw [← hQ]
  have hn0 := hO.1
  have hc0 := hO.2.2.2.1
  refine lv_aload_n hx hb dL_letterAt_0 rfl (lv_at hl 2 rfl) ?_
  refine zr_const hx hb dL_letterAt_1 ?_
  refine lv_aload_n hx hb dL_letterAt_2 rfl (lv_at hl 0 rfl) ?_
  refine lv_iload_n hx hb dL_letterAt_3 rfl (lv_at hl 1 rfl) ?_
  have hrc : ∃ cell : Cell, s.heap[gA g 0]? = some cell ∧ cell.vm.isStatics = false ∧ s.vm.findClass RX9 = some cell.cls := pl_recv hK (vaP_l hP) (hR.2.1 0 (by decide)) hR.1.1 (ci := 8) (q := (RX9, TX9, 3)) rfl
  rcases (show (¬ (0 ≤ z ∧ z < sN S)) ∨ (0 ≤ z ∧ z < sN S) by omega) with h1 | h1
  · refine wr_callx (vx_runV (As := [.int (zI z)]) (rest := [.int (zI 0), .ref o]) ⟨hx, hb, hml, hown, hts⟩ (kX9_letterAt_x l D k L f g S hR hO z hz h1 hlt n0 _) (cwV 1 hts gL_letterAt_X9_letterAt rfl rfl rfl (by decide +kernel) ⟨Nat.le_of_ble_eq_true rfl, Nat.le_of_ble_eq_true rfl⟩) (xc_preV hC.sub4 hX (vaP_l hP) hn9 (vaD_l hD) hS hAn hrc) rfl rfl hl.1 rfl (lv_room (Nat.le_of_ble_eq_true rfl)) dL_letterAt_4 ⟨Nat.le_of_ble_eq_true rfl, Nat.le_of_ble_eq_true rfl⟩) hP hD hS hA (fun E ce q9 u H locs hu hP hD hS hcell hv9 hcl => ?_)
    obtain ⟨rfl, rfl⟩ := hu
    refine vx_catch (own := RL) (name := "java/lang/IndexOutOfBoundsException") hown [] ⟨0, 9, 12, 13⟩ [] htb (fun z hz => absurd hz List.not_mem_nil) (by decide) (by decide) (hts (.classLink RL 13 "java/lang/IndexOutOfBoundsException") (by decide +kernel)) (va_Nw.use rfl (hNW (.castable "java/lang/IndexOutOfBoundsException" "java/lang/IndexOutOfBoundsException") (by decide +kernel))) hcell hv9 hcl ?_
    refine lv_astore_n (lv' := [(3, .ref q9), (0, .ref (gA g 0)), (1, .int (zI z)), (2, .ref o)]) hx hb dL_letterAt_12 rfl hl (by decide) rfl (fun ls hl => ?_)
    refine zr_const hx hb dL_letterAt_13 ?_
    refine w_widen (k9 := 7) (n9 := 82) (by decide) (by decide) ?_
    rw [hQ]
    refine vx_ret ?_
    exact pc_iret hx hb hrt hP (by rw [← hAd]; exact hD) (by rw [← hAd]; exact hS) (⟨1, 0, S, L, f, g, gl, rfl, by decide, rfl, rfl, hR, hO, fun h => absurd h (by decide), Or.inl ⟨h1, rfl, rfl⟩⟩) dL_letterAt_14 hlocks
  · refine vp_callSi (va_Run.run (va_runV (As := [.int (zI z)]) (rest := [.int (zI 0), .ref o]) ⟨hx, hb, hml, hown, hts⟩ (kX9_letterAt l D k L f g S hR hO z h1) (cwV 1 hts gL_letterAt_X9_letterAt rfl rfl rfl (by decide +kernel) ⟨Nat.le_of_ble_eq_true rfl, Nat.le_of_ble_eq_true rfl⟩) (rc_preV hC.sub4 (vaP_l hP) hrc) rfl rfl hl.1 rfl (lv_room (Nat.le_of_ble_eq_true rfl)) dL_letterAt_4 ⟨Nat.zero_le _, Nat.zero_le _⟩)) (fun r hu => ?_)
    subst hu
    refine lv_i2l (v := (sT S z.toNat).toInt64) hx hb dL_letterAt_7 rfl ?_
    refine wr_last (X := va_pl L f) hx hb hK hP hD hS dL_letterAt_8 (fun H locs hP hD hS => ?_)
    refine lv_goto (tgt := 15) hx hb dL_letterAt_9 (by decide) ?_
    refine zr_const hx hb dL_letterAt_15 ?_
    refine w_widen (k9 := 7) (n9 := 82) (by decide) (by decide) ?_
    rw [hQ]
    refine vx_ret ?_
    exact pc_iret hx hb hrt hP (by rw [← hAd]; exact hD) (by rw [← hAd]; exact hS) (⟨0, sT S z.toNat, S, L, f, g, _, rfl, by decide, rfl, rfl, hR, hO, fun _ => rfl, Or.inr ⟨h1, rfl, rfl, rfl⟩⟩) dL_letterAt_16 hlocks

set_option maxHeartbeats 4000000 in
set_option maxRecDepth 100000 in
theorem kL_mark (l : Launch) (D : va_G) (k : Nat → ClassId) (cL : ClassId) (L : List Nat) (f : Nat → va_E) (g : CG) (S : SA) (hR : cRep k L f g S) (hO : aOK S) (o : Nat) (gl : Nat → Int64) (z : Int) (hz : -2147483648 ≤ z ∧ z < 2147483648) (y : Int) (hy : -2147483648 ≤ y ∧ y < 2147483648) (x : Int) (hx9 : -2147483648 ≤ x ∧ x < 2147483648) (hlt : l.stackTraces = false) (n0 sz : Nat) : vx_Met l yL_mark wsL_mark ({ frames := 9, cells := 7, slots := 82, locals := 189 } : Room) (va_Pc [.ref (gA g 0), .int (zI z), .int (zI y), .int (zI x), .ref o] (xPre D (TYL k cL) n0 (va_pl L f ++ [(o, .inl (cL, 1, .inr (.inl gl)))]) sz)) (va_Qi (wP k cL o (gA g 0) (SpMark S z y x)) (pB D (va_pl L f ++ [(o, .inl (cL, 1, .inr (.inl gl)))]) sz) (va_A (va_pl L f ++ [(o, .inl (cL, 1, .inr (.inl gl)))]) sz)) (vx_X (fun _ : va_W => False) (fun _ _ _ => True) (va_A (va_pl L f ++ [(o, .inl (cL, 1, .inr (.inl gl)))]) sz)) 7 82 (va_A (va_pl L f ++ [(o, .inl (cL, 1, .inr (.inl gl)))]) sz) := by
  refine vx_ofWH (cc := cL_mark) (maxL := 6) (ret := some .int) (hh := [(0, 19, 22, 13), (0, 19, 26, 15)]) (by decide) rfl ?_
  intro p e s m args below meth c s₁ B hml hv
  obtain ⟨rfl, ⟨hsz, hn9, hP, hC, hD0⟩, hX⟩ := hv
  have hK := hC.1
  have hNW := hC.2.1
  have hx := B.exec
  have hb := B.bytes
  have hrt := B.returns
  have hts := atoms_spec (ws := wsL_mark) B.pre
  have hown : s.vm.findClass RL = some m.cls := findClass_of_methodNamed B.named
  have hlocks := B.notSynchronized
  have htb := vx_table (x := yL_mark) (y := yL_mark) (bytes := cL_mark) (maxL' := 6) (ret' := some .int) (hh := [(0, 19, 22, 13), (0, 19, 26, 15)]) B (hts _ List.mem_cons_self)
  subst hsz
  obtain ⟨A, hAd⟩ : ∃ A, A = va_A (va_pl L f ++ [(o, .inl (cL, 1, .inr (.inl gl)))]) s.heap.size := ⟨_, rfl⟩
  have hD := hD0.self (sz := s.heap.size)
  rw [← hAd] at hD
  have hA : ∀ q : Nat, s.heap.size ≤ q → A q := fun q h => by rw [hAd]; exact Or.inr h
  have hAn : ∀ q : Nat, A q → n0 ≤ q := fun q h => by
    rw [hAd] at h
    rcases h with ⟨k9, e9, hk9⟩ | h
    · exact hD0.2 k9 _ hk9
    · exact Nat.le_trans hn9 h
  have hS : va_S A s.heap s.heap [] := va_S.rf
  have hl := lv_entry ([.ref (gA g 0), .int (zI z), .int (zI y), .int (zI x), .ref o]) (n := 6) (Nat.le_of_ble_eq_true rfl)
  rw [lg_entry_eq]
  generalize (lg_sl ([.ref (gA g 0), .int (zI z), .int (zI y), .int (zI x), .ref o]) ++ List.replicate (6 - (lg_sl ([.ref (gA g 0), .int (zI z), .int (zI y), .int (zI x), .ref o])).length) Slot.unset).toArray = ls at hl ⊢
  have hl : lv_has ls 6 [(0, .ref (gA g 0)), (1, .int (zI z)), (2, .int (zI y)), (3, .int (zI x)), (4, .ref o)] := hl
  obtain ⟨Q, hQ⟩ : ∃ Q, Q = vx_MQ below (va_Qi (wP k cL o (gA g 0) (SpMark S z y x)) (pB D (va_pl L f ++ [(o, .inl (cL, 1, .inr (.inl gl)))]) s.heap.size) (va_A (va_pl L f ++ [(o, .inl (cL, 1, .inr (.inl gl)))]) s.heap.size)) (vx_X (fun _ : va_W => False) (fun _ _ _ => True) (va_A (va_pl L f ++ [(o, .inl (cL, 1, .inr (.inl gl)))]) s.heap.size)) ([.ref (gA g 0), .int (zI z), .int (zI y), .int (zI x), .ref o] : List Value).toArray s 7 82 (va_A (va_pl L f ++ [(o, .inl (cL, 1, .inr (.inl gl)))]) s.heap.size) := ⟨_, rfl⟩
  rw [← hQ]
  have hn0 := hO.1
  have hc0 := hO.2.2.2.1
  refine lv_aload hx hb dL_mark_0 (lv_at hl 4 rfl) ?_
  refine zr_const hx hb dL_mark_2 ?_
  refine lv_aload_n hx hb dL_mark_3 rfl (lv_at hl 0 rfl) ?_
  refine lv_iload_n hx hb dL_mark_4 rfl (lv_at hl 1 rfl) ?_
  refine lv_iload_n hx hb dL_mark_5 rfl (lv_at hl 2 rfl) ?_
  refine lv_iload_n hx hb dL_mark_6 rfl (lv_at hl 3 rfl) ?_
  have hrc : ∃ cell : Cell, s.heap[gA g 0]? = some cell ∧ cell.vm.isStatics = false ∧ s.vm.findClass RX9 = some cell.cls := pl_recv hK (vaP_l hP) (hR.2.1 0 (by decide)) hR.1.1 (ci := 8) (q := (RX9, TX9, 3)) rfl
  rcases (show (¬ (0 ≤ z ∧ z < 4)) ∨ ((0 ≤ z ∧ z < 4) ∧ ¬ (0 ≤ y ∧ y < x ∧ x ≤ sN S)) ∨ ((0 ≤ z ∧ z < 4) ∧ (0 ≤ y ∧ y < x ∧ x ≤ sN S)) by omega) with h1 | h1 | h1
  · refine wr_callx (vx_runV (As := [.int (zI z), .int (zI y), .int (zI x)]) (rest := [.int (zI 0), .ref o]) ⟨hx, hb, hml, hown, hts⟩ (kX9_mark_x l D k L f g S hR hO z hz y hy x hx9 h1 hlt n0 _) (cwV 3 hts gL_mark_X9_mark rfl rfl rfl (by decide +kernel) ⟨Nat.le_of_ble_eq_true rfl, Nat.le_of_ble_eq_true rfl⟩) (xc_preV hC.sub4 hX (vaP_l hP) hn9 (vaD_l hD) hS hAn hrc) rfl rfl hl.1 rfl (lv_room (Nat.le_of_ble_eq_true rfl)) dL_mark_7 ⟨Nat.le_of_ble_eq_true rfl, Nat.le_of_ble_eq_true rfl⟩) hP hD hS hA (fun E ce q9 u H locs hu hP hD hS hcell hv9 hcl => ?_)
    obtain ⟨rfl, rfl⟩ := hu
    refine vx_catch (own := RL) (name := "java/lang/IndexOutOfBoundsException") hown [] ⟨0, 19, 22, 13⟩ [⟨0, 19, 26, 15⟩] htb (fun z hz => absurd hz List.not_mem_nil) (by decide) (by decide) (hts (.classLink RL 13 "java/lang/IndexOutOfBoundsException") (by decide +kernel)) (va_Nw.use rfl (hNW (.castable "java/lang/IndexOutOfBoundsException" "java/lang/IndexOutOfBoundsException") (by decide +kernel))) hcell hv9 hcl ?_
    refine lv_astore (lv' := [(5, .ref q9), (0, .ref (gA g 0)), (1, .int (zI z)), (2, .int (zI y)), (3, .int (zI x)), (4, .ref o)]) hx hb dL_mark_22 hl (by decide) rfl (fun ls hl => ?_)
    refine zr_const hx hb dL_mark_24 ?_
    refine w_widen (k9 := 7) (n9 := 82) (by decide) (by decide) ?_
    rw [hQ]
    refine vx_ret ?_
    exact pc_iret hx hb hrt hP (by rw [← hAd]; exact hD) (by rw [← hAd]; exact hS) (⟨1, 0, S, L, f, g, gl, rfl, by decide, rfl, rfl, hR, hO, fun h => absurd h (by decide), Or.inl ⟨h1, rfl, rfl⟩⟩) dL_mark_25 hlocks
  · refine wr_callx (vx_runV (As := [.int (zI z), .int (zI y), .int (zI x)]) (rest := [.int (zI 0), .ref o]) ⟨hx, hb, hml, hown, hts⟩ (kX9_mark_x2 l D k L f g S hR hO y hy x hx9 z h1.1 h1.2 hlt n0 _) (cwV 3 hts gL_mark_X9_mark rfl rfl rfl (by decide +kernel) ⟨Nat.le_of_ble_eq_true rfl, Nat.le_of_ble_eq_true rfl⟩) (xc_preV hC.sub4 hX (vaP_l hP) hn9 (vaD_l hD) hS hAn hrc) rfl rfl hl.1 rfl (lv_room (Nat.le_of_ble_eq_true rfl)) dL_mark_7 ⟨Nat.le_of_ble_eq_true rfl, Nat.le_of_ble_eq_true rfl⟩) hP hD hS hA (fun E ce q9 u H locs hu hP hD hS hcell hv9 hcl => ?_)
    obtain ⟨rfl, rfl⟩ := hu
    refine vx_catch (own := RL) (name := "java/lang/IllegalArgumentException") hown [⟨0, 19, 22, 13⟩] ⟨0, 19, 26, 15⟩ [] htb (List.forall_mem_cons.mpr ⟨Or.inr ⟨by decide, _, hts (.classLink RL 13 "java/lang/IndexOutOfBoundsException") (by decide +kernel), hX.2.2.1 ("java/lang/IllegalArgumentException", "java/lang/IndexOutOfBoundsException") (by decide)⟩, fun z hz => absurd hz List.not_mem_nil⟩) (by decide) (by decide) (hts (.classLink RL 15 "java/lang/IllegalArgumentException") (by decide +kernel)) (va_Nw.use rfl (hNW (.castable "java/lang/IllegalArgumentException" "java/lang/IllegalArgumentException") (by decide +kernel))) hcell hv9 hcl ?_
    refine lv_astore (lv' := [(5, .ref q9), (0, .ref (gA g 0)), (1, .int (zI z)), (2, .int (zI y)), (3, .int (zI x)), (4, .ref o)]) hx hb dL_mark_26 hl (by decide) rfl (fun ls hl => ?_)
    refine zr_const hx hb dL_mark_28 ?_
    refine w_widen (k9 := 7) (n9 := 82) (by decide) (by decide) ?_
    rw [hQ]
    refine vx_ret ?_
    exact pc_iret hx hb hrt hP (by rw [← hAd]; exact hD) (by rw [← hAd]; exact hS) (⟨2, 0, S, L, f, g, gl, rfl, by decide, rfl, rfl, hR, hO, fun h => absurd h (by decide), Or.inr (Or.inl ⟨h1.1, h1.2, rfl, rfl⟩)⟩) dL_mark_29 hlocks
  · refine wr_calli (va_runV (As := [.int (zI z), .int (zI y), .int (zI x)]) (rest := [.int (zI 0), .ref o]) ⟨hx, hb, hml, hown, hts⟩ (kX9_mark l D k L f g S hR hO z h1.1 y x h1.2 n0 _) (cwV 3 hts gL_mark_X9_mark rfl rfl rfl (by decide +kernel) ⟨Nat.le_of_ble_eq_true rfl, Nat.le_of_ble_eq_true rfl⟩) (pc_preV hC.sub4 (vaP_l hP) hn9 (vaD_l hD) hAn hrc) rfl rfl hl.1 rfl (lv_room (Nat.le_of_ble_eq_true rfl)) dL_mark_7 ⟨Nat.le_of_ble_eq_true rfl, Nat.le_of_ble_eq_true rfl⟩) hP hD hS hA (fun r u H locs hu hP hD hS hz => ?_)
    obtain ⟨rfl, rfl⟩ := hu
    have hc9 : cRep k L _ g (kindS S z.toNat (addR (sR S z.toNat) y x)) := hR.marks hO (by omega) _
    have hO9 : aOK (kindS S z.toNat (addR (sR S z.toNat) y x)) := aOK_setK hO (by
      obtain ⟨yn, rfl⟩ : ∃ yn : Nat, y = (yn : Int) := ⟨y.toNat, by omega⟩
      obtain ⟨xn, rfl⟩ : ∃ xn : Nat, x = (xn : Int) := ⟨x.toNat, by omega⟩
      exact add_ok hO (by omega) ⟨by omega, by omega⟩)
    refine zr_ifb_eq (tgt := 17) hx hb dL_mark_10 (by decide) (fun c1 => ?_) (fun c1 => ?_)
    · refine lv_lconst (v := 0) hx hb dL_mark_17 (by decide) ?_
      refine wr_last (X := va_pl L _) hx hb hK hP hD hS dL_mark_18 (fun H locs hP hD hS => ?_)
      refine lv_goto (tgt := 30) hx hb dL_mark_19 (by decide) ?_
      refine zr_const hx hb dL_mark_30 ?_
      refine w_widen (k9 := 7) (n9 := 82) (by decide) (by decide) ?_
      rw [hQ]
      refine vx_ret ?_
      exact pc_iret hx hb hrt hP (by rw [← hAd]; exact hD) (by rw [← hAd]; exact hS) (⟨0, bI (!hasB (sR S z.toNat) y x), kindS S z.toNat (addR (sR S z.toNat) y x), L, _, g, _, rfl, by decide, rfl, rfl, hc9, hO9, fun _ => by show _ = (bI _).toInt64; rw [c1]; exact (show (0 : Int64) = (bI false).toInt64 by decide), Or.inr (Or.inr ⟨h1.1, h1.2, rfl, rfl, rfl⟩)⟩) dL_mark_31 hlocks
    · refine lv_lconst (v := 1) hx hb dL_mark_13 (by decide) ?_
      refine lv_goto (tgt := 18) hx hb dL_mark_14 (by decide) ?_
      refine wr_last (X := va_pl L _) hx hb hK hP hD hS dL_mark_18 (fun H locs hP hD hS => ?_)
      refine lv_goto (tgt := 30) hx hb dL_mark_19 (by decide) ?_
      refine zr_const hx hb dL_mark_30 ?_
      refine w_widen (k9 := 7) (n9 := 82) (by decide) (by decide) ?_
      rw [hQ]
      refine vx_ret ?_
      exact pc_iret hx hb hrt hP (by rw [← hAd]; exact hD) (by rw [← hAd]; exact hS) (⟨0, bI (!hasB (sR S z.toNat) y x), kindS S z.toNat (addR (sR S z.toNat) y x), L, _, g, _, rfl, by decide, rfl, rfl, hc9, hO9, fun _ => by show _ = (bI _).toInt64; rw [c1]; exact (show (1 : Int64) = (bI true).toInt64 by decide), Or.inr (Or.inr ⟨h1.1, h1.2, rfl, rfl, rfl⟩)⟩) dL_mark_31 hlocks

set_option maxHeartbeats 4000000 in
set_option maxRecDepth 100000 in
theorem kL_unmark (l : Launch) (D : va_G) (k : Nat → ClassId) (cL : ClassId) (L : List Nat) (f : Nat → va_E) (g : CG) (S : SA) (hR : cRep k L f g S) (hO : aOK S) (o : Nat) (gl : Nat → Int64) (z : Int) (hz : -2147483648 ≤ z ∧ z < 2147483648) (y : Int) (hy : -2147483648 ≤ y ∧ y < 2147483648) (hlt : l.stackTraces = false) (n0 sz : Nat) : vx_Met l yL_unmark wsL_unmark ({ frames := 9, cells := 7, slots := 82, locals := 189 } : Room) (va_Pc [.ref (gA g 0), .int (zI z), .int (zI y), .ref o] (xPre D (TYL k cL) n0 (va_pl L f ++ [(o, .inl (cL, 1, .inr (.inl gl)))]) sz)) (va_Qi (wP k cL o (gA g 0) (SpUnmark S z y)) (pB D (va_pl L f ++ [(o, .inl (cL, 1, .inr (.inl gl)))]) sz) (va_A (va_pl L f ++ [(o, .inl (cL, 1, .inr (.inl gl)))]) sz)) (vx_X (fun _ : va_W => False) (fun _ _ _ => True) (va_A (va_pl L f ++ [(o, .inl (cL, 1, .inr (.inl gl)))]) sz)) 7 82 (va_A (va_pl L f ++ [(o, .inl (cL, 1, .inr (.inl gl)))]) sz) := by
  refine vx_ofWH (cc := cL_unmark) (maxL := 5) (ret := some .int) (hh := [(0, 10, 13, 13)]) (by decide) rfl ?_
  intro p e s m args below meth c s₁ B hml hv
  obtain ⟨rfl, ⟨hsz, hn9, hP, hC, hD0⟩, hX⟩ := hv
  have hK := hC.1
  have hNW := hC.2.1
  have hx := B.exec
  have hb := B.bytes
  have hrt := B.returns
  have hts := atoms_spec (ws := wsL_unmark) B.pre
  have hown : s.vm.findClass RL = some m.cls := findClass_of_methodNamed B.named
  have hlocks := B.notSynchronized
  have htb := vx_table (x := yL_unmark) (y := yL_unmark) (bytes := cL_unmark) (maxL' := 5) (ret' := some .int) (hh := [(0, 10, 13, 13)]) B (hts _ List.mem_cons_self)
  subst hsz
  obtain ⟨A, hAd⟩ : ∃ A, A = va_A (va_pl L f ++ [(o, .inl (cL, 1, .inr (.inl gl)))]) s.heap.size := ⟨_, rfl⟩
  have hD := hD0.self (sz := s.heap.size)
  rw [← hAd] at hD
  have hA : ∀ q : Nat, s.heap.size ≤ q → A q := fun q h => by rw [hAd]; exact Or.inr h
  have hAn : ∀ q : Nat, A q → n0 ≤ q := fun q h => by
    rw [hAd] at h
    rcases h with ⟨k9, e9, hk9⟩ | h
    · exact hD0.2 k9 _ hk9
    · exact Nat.le_trans hn9 h
  have hS : va_S A s.heap s.heap [] := va_S.rf
  have hl := lv_entry ([.ref (gA g 0), .int (zI z), .int (zI y), .ref o]) (n := 5) (Nat.le_of_ble_eq_true rfl)
  rw [lg_entry_eq]
  generalize (lg_sl ([.ref (gA g 0), .int (zI z), .int (zI y), .ref o]) ++ List.replicate (5 - (lg_sl ([.ref (gA g 0), .int (zI z), .int (zI y), .ref o])).length) Slot.unset).toArray = ls at hl ⊢
  have hl : lv_has ls 5 [(0, .ref (gA g 0)), (1, .int (zI z)), (2, .int (zI y)), (3, .ref o)] := hl
  obtain ⟨Q, hQ⟩ : ∃ Q, Q = vx_MQ below (va_Qi (wP k cL o (gA g 0) (SpUnmark S z y)) (pB D (va_pl L f ++ [(o, .inl (cL, 1, .inr (.inl gl)))]) s.heap.size) (va_A (va_pl L f ++ [(o, .inl (cL, 1, .inr (.inl gl)))]) s.heap.size)) (vx_X (fun _ : va_W => False) (fun _ _ _ => True) (va_A (va_pl L f ++ [(o, .inl (cL, 1, .inr (.inl gl)))]) s.heap.size)) ([.ref (gA g 0), .int (zI z), .int (zI y), .ref o] : List Value).toArray s 7 82 (va_A (va_pl L f ++ [(o, .inl (cL, 1, .inr (.inl gl)))]) s.heap.size) := ⟨_, rfl⟩
  rw [← hQ]
  have hn0 := hO.1
  have hc0 := hO.2.2.2.1
  refine lv_aload_n hx hb dL_unmark_0 rfl (lv_at hl 3 rfl) ?_
  refine zr_const hx hb dL_unmark_1 ?_
  refine lv_aload_n hx hb dL_unmark_2 rfl (lv_at hl 0 rfl) ?_
  refine lv_iload_n hx hb dL_unmark_3 rfl (lv_at hl 1 rfl) ?_
  refine lv_iload_n hx hb dL_unmark_4 rfl (lv_at hl 2 rfl) ?_
  have hrc : ∃ cell : Cell, s.heap[gA g 0]? = some cell ∧ cell.vm.isStatics = false ∧ s.vm.findClass RX9 = some cell.cls := pl_recv hK (vaP_l hP) (hR.2.1 0 (by decide)) hR.1.1 (ci := 8) (q := (RX9, TX9, 3)) rfl
  rcases (show (¬ (0 ≤ z ∧ z < 4)) ∨ ((0 ≤ z ∧ z < 4) ∧ ¬ (0 ≤ y ∧ y < ((sizeR (sR S z.toNat) : Nat) : Int))) ∨ ((0 ≤ z ∧ z < 4) ∧ (0 ≤ y ∧ y < ((sizeR (sR S z.toNat) : Nat) : Int))) by omega) with h1 | h1 | h1
  · refine wr_callx (vx_runV (As := [.int (zI z), .int (zI y)]) (rest := [.int (zI 0), .ref o]) ⟨hx, hb, hml, hown, hts⟩ (kX9_unmark_x l D k L f g S hR hO z hz y hy h1 hlt n0 _) (cwV 2 hts gL_unmark_X9_unmark rfl rfl rfl (by decide +kernel) ⟨Nat.le_of_ble_eq_true rfl, Nat.le_of_ble_eq_true rfl⟩) (xc_preV hC.sub4 hX (vaP_l hP) hn9 (vaD_l hD) hS hAn hrc) rfl rfl hl.1 rfl (lv_room (Nat.le_of_ble_eq_true rfl)) dL_unmark_5 ⟨Nat.le_of_ble_eq_true rfl, Nat.le_of_ble_eq_true rfl⟩) hP hD hS hA (fun E ce q9 u H locs hu hP hD hS hcell hv9 hcl => ?_)
    obtain ⟨rfl, rfl⟩ := hu
    refine vx_catch (own := RL) (name := "java/lang/IndexOutOfBoundsException") hown [] ⟨0, 10, 13, 13⟩ [] htb (fun z hz => absurd hz List.not_mem_nil) (by decide) (by decide) (hts (.classLink RL 13 "java/lang/IndexOutOfBoundsException") (by decide +kernel)) (va_Nw.use rfl (hNW (.castable "java/lang/IndexOutOfBoundsException" "java/lang/IndexOutOfBoundsException") (by decide +kernel))) hcell hv9 hcl ?_
    refine lv_astore (lv' := [(4, .ref q9), (0, .ref (gA g 0)), (1, .int (zI z)), (2, .int (zI y)), (3, .ref o)]) hx hb dL_unmark_13 hl (by decide) rfl (fun ls hl => ?_)
    refine zr_const hx hb dL_unmark_15 ?_
    refine w_widen (k9 := 7) (n9 := 82) (by decide) (by decide) ?_
    rw [hQ]
    refine vx_ret ?_
    exact pc_iret hx hb hrt hP (by rw [← hAd]; exact hD) (by rw [← hAd]; exact hS) (⟨1, 0, S, L, f, g, gl, rfl, by decide, rfl, rfl, hR, hO, fun h => absurd h (by decide), Or.inl ⟨h1, rfl, rfl⟩⟩) dL_unmark_16 hlocks
  · refine wr_callx (vx_runV (As := [.int (zI z), .int (zI y)]) (rest := [.int (zI 0), .ref o]) ⟨hx, hb, hml, hown, hts⟩ (kX9_unmark_x2 l D k L f g S hR hO z h1.1 y hy (lin_no (mk_p S z.toNat) (mk_24 hO (by omega)) h1.2) hlt n0 _) (cwV 2 hts gL_unmark_X9_unmark rfl rfl rfl (by decide +kernel) ⟨Nat.le_of_ble_eq_true rfl, Nat.le_of_ble_eq_true rfl⟩) (xc_preV hC.sub4 hX (vaP_l hP) hn9 (vaD_l hD) hS hAn hrc) rfl rfl hl.1 rfl (lv_room (Nat.le_of_ble_eq_true rfl)) dL_unmark_5 ⟨Nat.le_of_ble_eq_true rfl, Nat.le_of_ble_eq_true rfl⟩) hP hD hS hA (fun E ce q9 u H locs hu hP hD hS hcell hv9 hcl => ?_)
    obtain ⟨rfl, rfl⟩ := hu
    refine vx_catch (own := RL) (name := "java/lang/IndexOutOfBoundsException") hown [] ⟨0, 10, 13, 13⟩ [] htb (fun z hz => absurd hz List.not_mem_nil) (by decide) (by decide) (hts (.classLink RL 13 "java/lang/IndexOutOfBoundsException") (by decide +kernel)) (va_Nw.use rfl (hNW (.castable "java/lang/IndexOutOfBoundsException" "java/lang/IndexOutOfBoundsException") (by decide +kernel))) hcell hv9 hcl ?_
    refine lv_astore (lv' := [(4, .ref q9), (0, .ref (gA g 0)), (1, .int (zI z)), (2, .int (zI y)), (3, .ref o)]) hx hb dL_unmark_13 hl (by decide) rfl (fun ls hl => ?_)
    refine zr_const hx hb dL_unmark_15 ?_
    refine w_widen (k9 := 7) (n9 := 82) (by decide) (by decide) ?_
    rw [hQ]
    refine vx_ret ?_
    exact pc_iret hx hb hrt hP (by rw [← hAd]; exact hD) (by rw [← hAd]; exact hS) (⟨1, 0, S, L, f, g, gl, rfl, by decide, rfl, rfl, hR, hO, fun h => absurd h (by decide), Or.inr (Or.inl ⟨h1.1, h1.2, rfl, rfl⟩)⟩) dL_unmark_16 hlocks
  · obtain ⟨ya, yb, ha, hb9, hq2, hq3⟩ := lin_kth (mk_p S z.toNat) (mk_24 hO (by omega)) h1.2
    refine wr_calli (va_runV (As := [.int (zI z), .int (zI y)]) (rest := [.int (zI 0), .ref o]) ⟨hx, hb, hml, hown, hts⟩ (kX9_unmark l D k L f g S hR hO z h1.1 y hy ya yb ha hb9 hq2 hq3 n0 _) (cwV 2 hts gL_unmark_X9_unmark rfl rfl rfl (by decide +kernel) ⟨Nat.le_of_ble_eq_true rfl, Nat.le_of_ble_eq_true rfl⟩) (pc_preV hC.sub4 (vaP_l hP) hn9 (vaD_l hD) hAn hrc) rfl rfl hl.1 rfl (lv_room (Nat.le_of_ble_eq_true rfl)) dL_unmark_5 ⟨Nat.le_of_ble_eq_true rfl, Nat.le_of_ble_eq_true rfl⟩) hP hD hS hA (fun r u H locs hu hP hD hS hz => ?_)
    obtain ⟨rfl, rfl⟩ := hu
    have hc9 : cRep k L _ g (kindS S z.toNat (dropR (sR S z.toNat) (ya : Int) (yb : Int))) := hR.marks hO (by omega) _
    have hO9 : aOK (kindS S z.toNat (dropR (sR S z.toNat) (ya : Int) (yb : Int))) := aOK_setK hO (drop_ok hO (by omega) _ _)
    refine lv_i2l (v := (zI ((sizeR (dropR (sR S z.toNat) (ya : Int) (yb : Int)) : Nat) : Int)).toInt64) hx hb dL_unmark_8 rfl ?_
    refine wr_last (X := va_pl L _) hx hb hK hP hD hS dL_unmark_9 (fun H locs hP hD hS => ?_)
    refine lv_goto (tgt := 17) hx hb dL_unmark_10 (by decide) ?_
    refine zr_const hx hb dL_unmark_17 ?_
    refine w_widen (k9 := 7) (n9 := 82) (by decide) (by decide) ?_
    rw [hQ]
    refine vx_ret ?_
    exact pc_iret hx hb hrt hP (by rw [← hAd]; exact hD) (by rw [← hAd]; exact hS) (⟨0, zI ((sizeR (dropR (sR S z.toNat) (ya : Int) (yb : Int)) : Nat) : Int), kindS S z.toNat (dropR (sR S z.toNat) (ya : Int) (yb : Int)), L, _, g, _, rfl, by decide, rfl, rfl, hc9, hO9, fun _ => rfl, Or.inr (Or.inr ⟨h1.1, rfl, ya, yb, ha, hb9, hq2, hq3, rfl, rfl⟩)⟩) dL_unmark_18 hlocks

set_option maxHeartbeats 4000000 in
set_option maxRecDepth 100000 in
theorem kL_letter (l : Launch) (D : va_G) (k : Nat → ClassId) (cL : ClassId) (L : List Nat) (f : Nat → va_E) (g : CG) (S : SA) (hR : cRep k L f g S) (hO : aOK S) (o : Nat) (gl : Nat → Int64) (z : Int) (hz : -2147483648 ≤ z ∧ z < 2147483648) (hlt : l.stackTraces = false) (n0 sz : Nat) : vx_Met l yL_letter wsL_letter ({ frames := 9, cells := 7, slots := 82, locals := 189 } : Room) (va_Pc [.ref (gA g 0), .int (zI z), .ref o] (xPre D (TYL k cL) n0 (va_pl L f ++ [(o, .inl (cL, 1, .inr (.inl gl)))]) sz)) (va_Qi (wP k cL o (gA g 0) (SpLetter S z)) (pB D (va_pl L f ++ [(o, .inl (cL, 1, .inr (.inl gl)))]) sz) (va_A (va_pl L f ++ [(o, .inl (cL, 1, .inr (.inl gl)))]) sz)) (vx_X (fun _ : va_W => False) (fun _ _ _ => True) (va_A (va_pl L f ++ [(o, .inl (cL, 1, .inr (.inl gl)))]) sz)) 7 82 (va_A (va_pl L f ++ [(o, .inl (cL, 1, .inr (.inl gl)))]) sz) := by
  refine vx_ofWH (cc := cL_letter) (maxL := 4) (ret := some .int) (hh := [(0, 9, 12, 15), (0, 9, 15, 17)]) (by decide) rfl ?_
  intro p e s m args below meth c s₁ B hml hv
  obtain ⟨rfl, ⟨hsz, hn9, hP, hC, hD0⟩, hX⟩ := hv
  have hK := hC.1
  have hNW := hC.2.1
  have hx := B.exec
  have hb := B.bytes
  have hrt := B.returns
  have hts := atoms_spec (ws := wsL_letter) B.pre
  have hown : s.vm.findClass RL = some m.cls := findClass_of_methodNamed B.named
  have hlocks := B.notSynchronized
  have htb := vx_table (x := yL_letter) (y := yL_letter) (bytes := cL_letter) (maxL' := 4) (ret' := some .int) (hh := [(0, 9, 12, 15), (0, 9, 15, 17)]) B (hts _ List.mem_cons_self)
  subst hsz
  obtain ⟨A, hAd⟩ : ∃ A, A = va_A (va_pl L f ++ [(o, .inl (cL, 1, .inr (.inl gl)))]) s.heap.size := ⟨_, rfl⟩
  have hD := hD0.self (sz := s.heap.size)
  rw [← hAd] at hD
  have hA : ∀ q : Nat, s.heap.size ≤ q → A q := fun q h => by rw [hAd]; exact Or.inr h
  have hAn : ∀ q : Nat, A q → n0 ≤ q := fun q h => by
    rw [hAd] at h
    rcases h with ⟨k9, e9, hk9⟩ | h
    · exact hD0.2 k9 _ hk9
    · exact Nat.le_trans hn9 h
  have hS : va_S A s.heap s.heap [] := va_S.rf
  have hl := lv_entry ([.ref (gA g 0), .int (zI z), .ref o]) (n := 4) (Nat.le_of_ble_eq_true rfl)
  rw [lg_entry_eq]
  generalize (lg_sl ([.ref (gA g 0), .int (zI z), .ref o]) ++ List.replicate (4 - (lg_sl ([.ref (gA g 0), .int (zI z), .ref o])).length) Slot.unset).toArray = ls at hl ⊢
  have hl : lv_has ls 4 [(0, .ref (gA g 0)), (1, .int (zI z)), (2, .ref o)] := hl
  obtain ⟨Q, hQ⟩ : ∃ Q, Q = vx_MQ below (va_Qi (wP k cL o (gA g 0) (SpLetter S z)) (pB D (va_pl L f ++ [(o, .inl (cL, 1, .inr (.inl gl)))]) s.heap.size) (va_A (va_pl L f ++ [(o, .inl (cL, 1, .inr (.inl gl)))]) s.heap.size)) (vx_X (fun _ : va_W => False) (fun _ _ _ => True) (va_A (va_pl L f ++ [(o, .inl (cL, 1, .inr (.inl gl)))]) s.heap.size)) ([.ref (gA g 0), .int (zI z), .ref o] : List Value).toArray s 7 82 (va_A (va_pl L f ++ [(o, .inl (cL, 1, .inr (.inl gl)))]) s.heap.size) := ⟨_, rfl⟩
  rw [← hQ]
  have hn0 := hO.1
  have hc0 := hO.2.2.2.1
  refine lv_aload_n hx hb dL_letter_0 rfl (lv_at hl 2 rfl) ?_
  refine zr_const hx hb dL_letter_1 ?_
  refine lv_aload_n hx hb dL_letter_2 rfl (lv_at hl 0 rfl) ?_
  refine lv_iload_n hx hb dL_letter_3 rfl (lv_at hl 1 rfl) ?_
  have hrc : ∃ cell : Cell, s.heap[gA g 0]? = some cell ∧ cell.vm.isStatics = false ∧ s.vm.findClass RX9 = some cell.cls := pl_recv hK (vaP_l hP) (hR.2.1 0 (by decide)) hR.1.1 (ci := 8) (q := (RX9, TX9, 3)) rfl
  rcases (show (¬ (0 ≤ z ∧ z < 6)) ∨ ((0 ≤ z ∧ z < 6) ∧ sC S = 30) ∨ ((0 ≤ z ∧ z < 6) ∧ sC S < 30) by omega) with h1 | h1 | h1
  · refine wr_callx (vx_runV (As := [.int (zI z)]) (rest := [.int (zI 0), .ref o]) ⟨hx, hb, hml, hown, hts⟩ (kX9_letter_x l D k L f g S hR hO z hz h1 hlt n0 _) (cwV 1 hts gL_letter_X9_letter rfl rfl rfl (by decide +kernel) ⟨Nat.le_of_ble_eq_true rfl, Nat.le_of_ble_eq_true rfl⟩) (xc_preV hC.sub4 hX (vaP_l hP) hn9 (vaD_l hD) hS hAn hrc) rfl rfl hl.1 rfl (lv_room (Nat.le_of_ble_eq_true rfl)) dL_letter_4 ⟨Nat.le_of_ble_eq_true rfl, Nat.le_of_ble_eq_true rfl⟩) hP hD hS hA (fun E ce q9 u H locs hu hP hD hS hcell hv9 hcl => ?_)
    obtain ⟨rfl, rfl⟩ := hu
    refine vx_catch (own := RL) (name := "java/lang/IllegalArgumentException") hown [] ⟨0, 9, 12, 15⟩ [⟨0, 9, 15, 17⟩] htb (fun z hz => absurd hz List.not_mem_nil) (by decide) (by decide) (hts (.classLink RL 15 "java/lang/IllegalArgumentException") (by decide +kernel)) (va_Nw.use rfl (hNW (.castable "java/lang/IllegalArgumentException" "java/lang/IllegalArgumentException") (by decide +kernel))) hcell hv9 hcl ?_
    refine lv_astore_n (lv' := [(3, .ref q9), (0, .ref (gA g 0)), (1, .int (zI z)), (2, .ref o)]) hx hb dL_letter_12 rfl hl (by decide) rfl (fun ls hl => ?_)
    refine zr_const hx hb dL_letter_13 ?_
    refine w_widen (k9 := 7) (n9 := 82) (by decide) (by decide) ?_
    rw [hQ]
    refine vx_ret ?_
    exact pc_iret hx hb hrt hP (by rw [← hAd]; exact hD) (by rw [← hAd]; exact hS) (⟨1, 0, S, L, f, g, gl, rfl, by decide, rfl, rfl, hR, hO, fun h => absurd h (by decide), Or.inl ⟨h1, rfl, rfl⟩⟩) dL_letter_14 hlocks
  · have hap := kX9_letter_x2 l D k L f g S hR hO z.toNat (by omega) (Or.inl (by omega)) hlt n0 s.heap.size
    rw [Int.toNat_of_nonneg h1.1.1] at hap
    refine wr_callx (vx_runV (As := [.int (zI z)]) (rest := [.int (zI 0), .ref o]) ⟨hx, hb, hml, hown, hts⟩ hap (cwV 1 hts gL_letter_X9_letter rfl rfl rfl (by decide +kernel) ⟨Nat.le_of_ble_eq_true rfl, Nat.le_of_ble_eq_true rfl⟩) (xc_preV hC.sub4 hX (vaP_l hP) hn9 (vaD_l hD) hS hAn hrc) rfl rfl hl.1 rfl (lv_room (Nat.le_of_ble_eq_true rfl)) dL_letter_4 ⟨Nat.le_of_ble_eq_true rfl, Nat.le_of_ble_eq_true rfl⟩) hP hD hS hA (fun E ce q9 u H locs hu hP hD hS hcell hv9 hcl => ?_)
    obtain ⟨rfl, rfl⟩ := hu
    refine vx_catch (own := RL) (name := "java/lang/IllegalStateException") hown [⟨0, 9, 12, 15⟩] ⟨0, 9, 15, 17⟩ [] htb (List.forall_mem_cons.mpr ⟨Or.inr ⟨by decide, _, hts (.classLink RL 15 "java/lang/IllegalArgumentException") (by decide +kernel), hX.2.2.1 ("java/lang/IllegalStateException", "java/lang/IllegalArgumentException") (by decide)⟩, fun z hz => absurd hz List.not_mem_nil⟩) (by decide) (by decide) (hts (.classLink RL 17 "java/lang/IllegalStateException") (by decide +kernel)) (va_Nw.use rfl (hNW (.castable "java/lang/IllegalStateException" "java/lang/IllegalStateException") (by decide +kernel))) hcell hv9 hcl ?_
    refine lv_astore_n (lv' := [(3, .ref q9), (0, .ref (gA g 0)), (1, .int (zI z)), (2, .ref o)]) hx hb dL_letter_15 rfl hl (by decide) rfl (fun ls hl => ?_)
    refine zr_const hx hb dL_letter_16 ?_
    refine w_widen (k9 := 7) (n9 := 82) (by decide) (by decide) ?_
    rw [hQ]
    refine vx_ret ?_
    exact pc_iret hx hb hrt hP (by rw [← hAd]; exact hD) (by rw [← hAd]; exact hS) (⟨2, 0, S, L, f, g, gl, rfl, by decide, rfl, rfl, hR, hO, fun h => absurd h (by decide), Or.inr (Or.inl ⟨h1.1, h1.2, rfl, rfl⟩)⟩) dL_letter_17 hlocks
  · have hap := kX9_letter l D k L f g S hR hO z.toNat (by omega) h1.2 n0 s.heap.size
    rw [Int.toNat_of_nonneg h1.1.1] at hap
    refine wr_calli (va_runV (As := [.int (zI z)]) (rest := [.int (zI 0), .ref o]) ⟨hx, hb, hml, hown, hts⟩ hap (cwV 1 hts gL_letter_X9_letter rfl rfl rfl (by decide +kernel) ⟨Nat.le_of_ble_eq_true rfl, Nat.le_of_ble_eq_true rfl⟩) (pc_preV hC.sub4 (vaP_l hP) hn9 (vaD_l hD) hAn hrc) rfl rfl hl.1 rfl (lv_room (Nat.le_of_ble_eq_true rfl)) dL_letter_4 ⟨Nat.le_of_ble_eq_true rfl, Nat.le_of_ble_eq_true rfl⟩) hP hD hS hA (fun r u H locs hu hP hD hS hz => ?_)
    obtain ⟨rfl, L2, F, g2, rfl, hg9, hc9⟩ := hu
    have hO9 : aOK (addS S 11 z.toNat z.toNat 0 1) := hO.add h1.2 (by decide) (by decide) (fun _ => by omega) (fun h => by omega) (fun a b => by first | exact absurd rfl a | exact absurd rfl b) (fun h => absurd h (by decide)) (fun h => absurd h (by decide))
    refine lv_i2l (v := (zI (sC S : Int)).toInt64) hx hb dL_letter_7 rfl ?_
    refine wr_last (X := va_pl L2 F) hx hb hK hP hD hS dL_letter_8 (fun H locs hP hD hS => ?_)
    refine lv_goto (tgt := 18) hx hb dL_letter_9 (by decide) ?_
    refine zr_const hx hb dL_letter_18 ?_
    refine w_widen (k9 := 7) (n9 := 82) (by decide) (by decide) ?_
    rw [hQ]
    refine vx_ret ?_
    exact pc_iret hx hb hrt hP (by rw [← hAd]; exact hD) (by rw [← hAd]; exact hS) (⟨0, zI (sC S : Int), addS S 11 z.toNat z.toNat 0 1, L2, F, g2, _, rfl, by decide, rfl, hg9, hc9, hO9, fun _ => rfl, Or.inr (Or.inr ⟨h1.1, h1.2, rfl, rfl, rfl⟩)⟩) dL_letter_19 hlocks

set_option maxHeartbeats 4000000 in
set_option maxRecDepth 100000 in
theorem kL_marked (l : Launch) (D : va_G) (k : Nat → ClassId) (cL : ClassId) (L : List Nat) (f : Nat → va_E) (g : CG) (S : SA) (hR : cRep k L f g S) (hO : aOK S) (o : Nat) (gl : Nat → Int64) (z : Int) (hz : -2147483648 ≤ z ∧ z < 2147483648) (hlt : l.stackTraces = false) (n0 sz : Nat) : vx_Met l yL_marked wsL_marked ({ frames := 9, cells := 7, slots := 82, locals := 189 } : Room) (va_Pc [.ref (gA g 0), .int (zI z), .ref o] (xPre D (TYL k cL) n0 (va_pl L f ++ [(o, .inl (cL, 1, .inr (.inl gl)))]) sz)) (va_Qi (wP k cL o (gA g 0) (SpMarked S z)) (pB D (va_pl L f ++ [(o, .inl (cL, 1, .inr (.inl gl)))]) sz) (va_A (va_pl L f ++ [(o, .inl (cL, 1, .inr (.inl gl)))]) sz)) (vx_X (fun _ : va_W => False) (fun _ _ _ => True) (va_A (va_pl L f ++ [(o, .inl (cL, 1, .inr (.inl gl)))]) sz)) 7 82 (va_A (va_pl L f ++ [(o, .inl (cL, 1, .inr (.inl gl)))]) sz) := by
  refine vx_ofWH (cc := cL_marked) (maxL := 4) (ret := some .int) (hh := [(0, 9, 12, 13), (0, 9, 15, 17)]) (by decide) rfl ?_
  intro p e s m args below meth c s₁ B hml hv
  obtain ⟨rfl, ⟨hsz, hn9, hP, hC, hD0⟩, hX⟩ := hv
  have hK := hC.1
  have hNW := hC.2.1
  have hx := B.exec
  have hb := B.bytes
  have hrt := B.returns
  have hts := atoms_spec (ws := wsL_marked) B.pre
  have hown : s.vm.findClass RL = some m.cls := findClass_of_methodNamed B.named
  have hlocks := B.notSynchronized
  have htb := vx_table (x := yL_marked) (y := yL_marked) (bytes := cL_marked) (maxL' := 4) (ret' := some .int) (hh := [(0, 9, 12, 13), (0, 9, 15, 17)]) B (hts _ List.mem_cons_self)
  subst hsz
  obtain ⟨A, hAd⟩ : ∃ A, A = va_A (va_pl L f ++ [(o, .inl (cL, 1, .inr (.inl gl)))]) s.heap.size := ⟨_, rfl⟩
  have hD := hD0.self (sz := s.heap.size)
  rw [← hAd] at hD
  have hA : ∀ q : Nat, s.heap.size ≤ q → A q := fun q h => by rw [hAd]; exact Or.inr h
  have hAn : ∀ q : Nat, A q → n0 ≤ q := fun q h => by
    rw [hAd] at h
    rcases h with ⟨k9, e9, hk9⟩ | h
    · exact hD0.2 k9 _ hk9
    · exact Nat.le_trans hn9 h
  have hS : va_S A s.heap s.heap [] := va_S.rf
  have hl := lv_entry ([.ref (gA g 0), .int (zI z), .ref o]) (n := 4) (Nat.le_of_ble_eq_true rfl)
  rw [lg_entry_eq]
  generalize (lg_sl ([.ref (gA g 0), .int (zI z), .ref o]) ++ List.replicate (4 - (lg_sl ([.ref (gA g 0), .int (zI z), .ref o])).length) Slot.unset).toArray = ls at hl ⊢
  have hl : lv_has ls 4 [(0, .ref (gA g 0)), (1, .int (zI z)), (2, .ref o)] := hl
  obtain ⟨Q, hQ⟩ : ∃ Q, Q = vx_MQ below (va_Qi (wP k cL o (gA g 0) (SpMarked S z)) (pB D (va_pl L f ++ [(o, .inl (cL, 1, .inr (.inl gl)))]) s.heap.size) (va_A (va_pl L f ++ [(o, .inl (cL, 1, .inr (.inl gl)))]) s.heap.size)) (vx_X (fun _ : va_W => False) (fun _ _ _ => True) (va_A (va_pl L f ++ [(o, .inl (cL, 1, .inr (.inl gl)))]) s.heap.size)) ([.ref (gA g 0), .int (zI z), .ref o] : List Value).toArray s 7 82 (va_A (va_pl L f ++ [(o, .inl (cL, 1, .inr (.inl gl)))]) s.heap.size) := ⟨_, rfl⟩
  rw [← hQ]
  have hn0 := hO.1
  have hc0 := hO.2.2.2.1
  refine lv_aload_n hx hb dL_marked_0 rfl (lv_at hl 2 rfl) ?_
  refine zr_const hx hb dL_marked_1 ?_
  refine lv_aload_n hx hb dL_marked_2 rfl (lv_at hl 0 rfl) ?_
  refine lv_iload_n hx hb dL_marked_3 rfl (lv_at hl 1 rfl) ?_
  have hrc : ∃ cell : Cell, s.heap[gA g 0]? = some cell ∧ cell.vm.isStatics = false ∧ s.vm.findClass RX9 = some cell.cls := pl_recv hK (vaP_l hP) (hR.2.1 0 (by decide)) hR.1.1 (ci := 8) (q := (RX9, TX9, 3)) rfl
  rcases (show (¬ (0 ≤ z ∧ z < 4)) ∨ ((0 ≤ z ∧ z < 4) ∧ sC S = 30) ∨ ((0 ≤ z ∧ z < 4) ∧ sC S < 30) by omega) with h1 | h1 | h1
  · refine wr_callx (vx_runV (As := [.int (zI z)]) (rest := [.int (zI 0), .ref o]) ⟨hx, hb, hml, hown, hts⟩ (kX9_marked_x l D k L f g S hR hO z hz h1 hlt n0 _) (cwV 1 hts gL_marked_X9_marked rfl rfl rfl (by decide +kernel) ⟨Nat.le_of_ble_eq_true rfl, Nat.le_of_ble_eq_true rfl⟩) (xc_preV hC.sub4 hX (vaP_l hP) hn9 (vaD_l hD) hS hAn hrc) rfl rfl hl.1 rfl (lv_room (Nat.le_of_ble_eq_true rfl)) dL_marked_4 ⟨Nat.le_of_ble_eq_true rfl, Nat.le_of_ble_eq_true rfl⟩) hP hD hS hA (fun E ce q9 u H locs hu hP hD hS hcell hv9 hcl => ?_)
    obtain ⟨rfl, rfl⟩ := hu
    refine vx_catch (own := RL) (name := "java/lang/IndexOutOfBoundsException") hown [] ⟨0, 9, 12, 13⟩ [⟨0, 9, 15, 17⟩] htb (fun z hz => absurd hz List.not_mem_nil) (by decide) (by decide) (hts (.classLink RL 13 "java/lang/IndexOutOfBoundsException") (by decide +kernel)) (va_Nw.use rfl (hNW (.castable "java/lang/IndexOutOfBoundsException" "java/lang/IndexOutOfBoundsException") (by decide +kernel))) hcell hv9 hcl ?_
    refine lv_astore_n (lv' := [(3, .ref q9), (0, .ref (gA g 0)), (1, .int (zI z)), (2, .ref o)]) hx hb dL_marked_12 rfl hl (by decide) rfl (fun ls hl => ?_)
    refine zr_const hx hb dL_marked_13 ?_
    refine w_widen (k9 := 7) (n9 := 82) (by decide) (by decide) ?_
    rw [hQ]
    refine vx_ret ?_
    exact pc_iret hx hb hrt hP (by rw [← hAd]; exact hD) (by rw [← hAd]; exact hS) (⟨1, 0, S, L, f, g, gl, rfl, by decide, rfl, rfl, hR, hO, fun h => absurd h (by decide), Or.inl ⟨h1, rfl, rfl⟩⟩) dL_marked_14 hlocks
  · refine wr_callx (vx_runV (As := [.int (zI z)]) (rest := [.int (zI 0), .ref o]) ⟨hx, hb, hml, hown, hts⟩ (kX9_marked_x2 l D k L f g S hR hO z h1.1 (Or.inl (by omega)) hlt n0 _) (cwV 1 hts gL_marked_X9_marked rfl rfl rfl (by decide +kernel) ⟨Nat.le_of_ble_eq_true rfl, Nat.le_of_ble_eq_true rfl⟩) (xc_preV hC.sub4 hX (vaP_l hP) hn9 (vaD_l hD) hS hAn hrc) rfl rfl hl.1 rfl (lv_room (Nat.le_of_ble_eq_true rfl)) dL_marked_4 ⟨Nat.le_of_ble_eq_true rfl, Nat.le_of_ble_eq_true rfl⟩) hP hD hS hA (fun E ce q9 u H locs hu hP hD hS hcell hv9 hcl => ?_)
    obtain ⟨rfl, rfl⟩ := hu
    refine vx_catch (own := RL) (name := "java/lang/IllegalStateException") hown [⟨0, 9, 12, 13⟩] ⟨0, 9, 15, 17⟩ [] htb (List.forall_mem_cons.mpr ⟨Or.inr ⟨by decide, _, hts (.classLink RL 13 "java/lang/IndexOutOfBoundsException") (by decide +kernel), hX.2.2.1 ("java/lang/IllegalStateException", "java/lang/IndexOutOfBoundsException") (by decide)⟩, fun z hz => absurd hz List.not_mem_nil⟩) (by decide) (by decide) (hts (.classLink RL 17 "java/lang/IllegalStateException") (by decide +kernel)) (va_Nw.use rfl (hNW (.castable "java/lang/IllegalStateException" "java/lang/IllegalStateException") (by decide +kernel))) hcell hv9 hcl ?_
    refine lv_astore_n (lv' := [(3, .ref q9), (0, .ref (gA g 0)), (1, .int (zI z)), (2, .ref o)]) hx hb dL_marked_15 rfl hl (by decide) rfl (fun ls hl => ?_)
    refine zr_const hx hb dL_marked_16 ?_
    refine w_widen (k9 := 7) (n9 := 82) (by decide) (by decide) ?_
    rw [hQ]
    refine vx_ret ?_
    exact pc_iret hx hb hrt hP (by rw [← hAd]; exact hD) (by rw [← hAd]; exact hS) (⟨2, 0, S, L, f, g, gl, rfl, by decide, rfl, rfl, hR, hO, fun h => absurd h (by decide), Or.inr (Or.inl ⟨h1.1, h1.2, rfl, rfl⟩)⟩) dL_marked_17 hlocks
  · refine wr_calli (va_runV (As := [.int (zI z)]) (rest := [.int (zI 0), .ref o]) ⟨hx, hb, hml, hown, hts⟩ (kX9_marked l D k L f g S hR hO z h1.1 h1.2 n0 _) (cwV 1 hts gL_marked_X9_marked rfl rfl rfl (by decide +kernel) ⟨Nat.le_of_ble_eq_true rfl, Nat.le_of_ble_eq_true rfl⟩) (pc_preV hC.sub4 (vaP_l hP) hn9 (vaD_l hD) hAn hrc) rfl rfl hl.1 rfl (lv_room (Nat.le_of_ble_eq_true rfl)) dL_marked_4 ⟨Nat.le_of_ble_eq_true rfl, Nat.le_of_ble_eq_true rfl⟩) hP hD hS hA (fun r u H locs hu hP hD hS hz => ?_)
    obtain ⟨rfl, L2, F, g2, rfl, hg9, hc9⟩ := hu
    have hO9 : aOK (addS S 12 z.toNat z.toNat 0 1) := hO.add h1.2 (by decide) (by decide) (fun _ => by omega) (fun h => by omega) (fun a b => by first | exact absurd rfl a | exact absurd rfl b) (fun h => absurd h (by decide)) (fun h => absurd h (by decide))
    refine lv_i2l (v := (zI (sC S : Int)).toInt64) hx hb dL_marked_7 rfl ?_
    refine wr_last (X := va_pl L2 F) hx hb hK hP hD hS dL_marked_8 (fun H locs hP hD hS => ?_)
    refine lv_goto (tgt := 18) hx hb dL_marked_9 (by decide) ?_
    refine zr_const hx hb dL_marked_18 ?_
    refine w_widen (k9 := 7) (n9 := 82) (by decide) (by decide) ?_
    rw [hQ]
    refine vx_ret ?_
    exact pc_iret hx hb hrt hP (by rw [← hAd]; exact hD) (by rw [← hAd]; exact hS) (⟨0, zI (sC S : Int), addS S 12 z.toNat z.toNat 0 1, L2, F, g2, _, rfl, by decide, rfl, hg9, hc9, hO9, fun _ => rfl, Or.inr (Or.inr ⟨h1.1, h1.2, rfl, rfl, rfl⟩)⟩) dL_marked_19 hlocks
