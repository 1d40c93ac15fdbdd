set_option maxHeartbeats 4000000 in
set_option maxRecDepth 100000 in
theorem kL_insert (l : Launch) (D : va_G) (k : Nat → ClassId) (L : List Nat) (f : Nat → va_E) (g : CG) (S : SA) (hR : cRep k L f g S) (hO : aOK S) (z : Int) (hz : -2147483648 ≤ z ∧ z < 2147483648) (y : Int) (hy : -2147483648 ≤ y ∧ y < 2147483648) (hlt : l.stackTraces = false) (n0 sz : Nat) : Met l yL_insert wsL_insert ({ frames := 9, cells := 7, slots := 82, locals := 189 } : Room) (va_Pc [.ref (gA g 0), .int (zI z), .int (zI y)] (xPre D (tyL k) n0 (va_pl L f) sz)) (va_Qi (wQ k (gA g 0) (-99999) (SpInsert S z y)) (pB D (va_pl L f) sz) (va_A (va_pl L f) sz)) 7 82 (va_A (va_pl L f) sz) := by
  refine vx_toMet (XC := (vx_X (fun _ : va_W => False) (fun _ _ _ => True) (va_A (va_pl L f) sz))) (vx_ofWH (cc := cL_insert) (maxL := 4) (ret := some .int) (hh := [(0, 6, 7, 14), (0, 6, 11, 17), (0, 6, 15, 19)]) (by decide) rfl ?_) (fun E st t h => by obtain ⟨u, hu, -⟩ := h; exact hu)
  intro p e s m args below meth c s₁ B hml hv
  obtain ⟨rfl, ⟨hsz, hn9, hP, hC, hD0⟩, hX⟩ := hv
  have hK := hC.1
  have hNW := hC.2.1
  have hx := B.exec
  have hb := B.bytes
  have hrt := B.returns
  have hts := atoms_spec (ws := wsL_insert) B.pre
  have hown : s.vm.findClass RL = some m.cls := findClass_of_methodNamed B.named
  have hlocks := B.notSynchronized
  have htb := vx_table (x := yL_insert) (y := yL_insert) (bytes := cL_insert) (maxL' := 4) (ret' := some .int) (hh := [(0, 6, 7, 14), (0, 6, 11, 17), (0, 6, 15, 19)]) B (hts _ List.mem_cons_self)
  subst hsz
  obtain ⟨A, hAd⟩ : ∃ A, A = va_A (va_pl L f) s.heap.size := ⟨_, rfl⟩
  have hD := hD0.self (sz := s.heap.size)
  rw [← hAd] at hD
  have hA : ∀ q : Nat, s.heap.size ≤ q → A q := fun q h => by rw [hAd]; exact Or.inr h
  have hAn : ∀ q : Nat, A q → n0 ≤ q := fun q h => by
    rw [hAd] at h
    rcases h with ⟨k9, e9, hk9⟩ | h
    · exact hD0.2 k9 _ hk9
    · exact Nat.le_trans hn9 h
  have hS : va_S A s.heap s.heap [] := va_S.rf
  have hl := lv_entry ([.ref (gA g 0), .int (zI z), .int (zI y)]) (n := 4) (Nat.le_of_ble_eq_true rfl)
  rw [lg_entry_eq]
  generalize (lg_sl ([.ref (gA g 0), .int (zI z), .int (zI y)]) ++ List.replicate (4 - (lg_sl ([.ref (gA g 0), .int (zI z), .int (zI y)])).length) Slot.unset).toArray = ls at hl ⊢
  have hl : lv_has ls 4 [(0, .ref (gA g 0)), (1, .int (zI z)), (2, .int (zI y))] := hl
  obtain ⟨Q, hQ⟩ : ∃ Q, Q = vx_MQ below (va_Qi (wQ k (gA g 0) (-99999) (SpInsert S z y)) (pB D (va_pl L f) s.heap.size) (va_A (va_pl L f) s.heap.size)) (vx_X (fun _ : va_W => False) (fun _ _ _ => True) (va_A (va_pl L f) s.heap.size)) ([.ref (gA g 0), .int (zI z), .int (zI y)] : List Value).toArray s 7 82 (va_A (va_pl L f) s.heap.size) := ⟨_, rfl⟩
  rw [← hQ]
  have hn0 := hO.1
  have hc0 := hO.2.2.2.1
  refine lv_aload_n hx hb dL_insert_0 rfl (lv_at hl 0 rfl) ?_
  refine lv_iload_n hx hb dL_insert_1 rfl (lv_at hl 1 rfl) ?_
  refine lv_iload_n hx hb dL_insert_2 rfl (lv_at hl 2 rfl) ?_
  have hrc : ∃ cell : Cell, s.heap[gA g 0]? = some cell ∧ cell.vm.isStatics = false ∧ s.vm.findClass RX9 = some cell.cls := pl_recv hK hP (hR.2.1 0 (by decide)) hR.1.1 (ci := 8) (q := (RX9, TX9, 3)) rfl
  rcases (show (¬ (0 ≤ z ∧ z ≤ sN S)) ∨ ((0 ≤ z ∧ z ≤ sN S) ∧ ¬ (0 ≤ y ∧ y < 6)) ∨ ((0 ≤ z ∧ z ≤ sN S) ∧ (0 ≤ y ∧ y < 6) ∧ sN S = 24) ∨ ((0 ≤ z ∧ z ≤ sN S) ∧ (0 ≤ y ∧ y < 6) ∧ sN S < 24) by omega) with h1 | h1 | h1 | h1
  · refine pz_callx (vx_runV (As := [.int (zI z), .int (zI y)]) (rest := []) ⟨hx, hb, hml, hown, hts⟩ (kX9_insert_x l D k L f g S hR hO z hz y hy "java/lang/IndexOutOfBoundsException" (Or.inl ⟨h1, rfl⟩) hlt n0 _) (cwV 2 hts gL_insert_X9_insert rfl rfl rfl (by decide +kernel) ⟨Nat.le_of_ble_eq_true rfl, Nat.le_of_ble_eq_true rfl⟩) (xc_preV hC hX hP hn9 hD hS hAn hrc) rfl rfl hl.1 rfl (lv_room (Nat.le_of_ble_eq_true rfl)) dL_insert_3 ⟨Nat.le_of_ble_eq_true rfl, Nat.le_of_ble_eq_true rfl⟩) hD hS hA (fun E ce q9 u H locs hu hP hD hS hcell hv9 hcl => ?_)
    obtain ⟨rfl, rfl⟩ := hu
    refine vx_catch (own := RL) (name := "java/lang/IndexOutOfBoundsException") hown [] ⟨0, 6, 7, 14⟩ [⟨0, 6, 11, 17⟩, ⟨0, 6, 15, 19⟩] htb (fun z hz => absurd hz List.not_mem_nil) (by decide) (by decide) (hts (.classLink RL 14 "java/lang/IndexOutOfBoundsException") (by decide +kernel)) (va_Nw.use rfl (hNW (.castable "java/lang/IndexOutOfBoundsException" "java/lang/IndexOutOfBoundsException") (by decide +kernel))) hcell hv9 hcl ?_
    refine lv_astore_n (lv' := [(3, .ref q9), (0, .ref (gA g 0)), (1, .int (zI z)), (2, .int (zI y))]) hx hb dL_insert_7 rfl hl (by decide) rfl (fun ls hl => ?_)
    refine lv_ldc (v := -99999) hx hb hown (hts (.constant RL 16 (-99999)) (by decide +kernel)) dL_insert_8 ?_
    refine w_widen (k9 := 7) (n9 := 82) (by decide) (by decide) ?_
    rw [hQ]
    refine vx_ret ?_
    exact pc_iret hx hb hrt hP (by rw [← hAd]; exact hD) (by rw [← hAd]; exact hS) (⟨1, 0, S, L, f, g, (if_neg (by decide)).symm, by decide, rfl, rfl, hR, hO, Or.inl ⟨h1, rfl, rfl⟩⟩) dL_insert_10 hlocks
  · refine pz_callx (vx_runV (As := [.int (zI z), .int (zI y)]) (rest := []) ⟨hx, hb, hml, hown, hts⟩ (kX9_insert_x l D k L f g S hR hO z hz y hy "java/lang/IllegalArgumentException" (Or.inr (Or.inl ⟨h1.1, h1.2, rfl⟩)) hlt n0 _) (cwV 2 hts gL_insert_X9_insert rfl rfl rfl (by decide +kernel) ⟨Nat.le_of_ble_eq_true rfl, Nat.le_of_ble_eq_true rfl⟩) (xc_preV hC hX hP hn9 hD hS hAn hrc) rfl rfl hl.1 rfl (lv_room (Nat.le_of_ble_eq_true rfl)) dL_insert_3 ⟨Nat.le_of_ble_eq_true rfl, Nat.le_of_ble_eq_true rfl⟩) hD hS hA (fun E ce q9 u H locs hu hP hD hS hcell hv9 hcl => ?_)
    obtain ⟨rfl, rfl⟩ := hu
    refine vx_catch (own := RL) (name := "java/lang/IllegalArgumentException") hown [⟨0, 6, 7, 14⟩] ⟨0, 6, 11, 17⟩ [⟨0, 6, 15, 19⟩] htb (List.forall_mem_cons.mpr ⟨Or.inr ⟨by decide, _, hts (.classLink RL 14 "java/lang/IndexOutOfBoundsException") (by decide +kernel), hX.2.2.1 ("java/lang/IllegalArgumentException", "java/lang/IndexOutOfBoundsException") (by decide)⟩, fun z hz => absurd hz List.not_mem_nil⟩) (by decide) (by decide) (hts (.classLink RL 17 "java/lang/IllegalArgumentException") (by decide +kernel)) (va_Nw.use rfl (hNW (.castable "java/lang/IllegalArgumentException" "java/lang/IllegalArgumentException") (by decide +kernel))) hcell hv9 hcl ?_
    refine lv_astore_n (lv' := [(3, .ref q9), (0, .ref (gA g 0)), (1, .int (zI z)), (2, .int (zI y))]) hx hb dL_insert_11 rfl hl (by decide) rfl (fun ls hl => ?_)
    refine lv_ldc (v := -99999) hx hb hown (hts (.constant RL 16 (-99999)) (by decide +kernel)) dL_insert_12 ?_
    refine w_widen (k9 := 7) (n9 := 82) (by decide) (by decide) ?_
    rw [hQ]
    refine vx_ret ?_
    exact pc_iret hx hb hrt hP (by rw [← hAd]; exact hD) (by rw [← hAd]; exact hS) (⟨2, 0, S, L, f, g, (if_neg (by decide)).symm, by decide, rfl, rfl, hR, hO, Or.inr (Or.inl ⟨h1.1, h1.2, rfl, rfl⟩)⟩) dL_insert_14 hlocks
  · refine pz_callx (vx_runV (As := [.int (zI z), .int (zI y)]) (rest := []) ⟨hx, hb, hml, hown, hts⟩ (kX9_insert_x l D k L f g S hR hO z hz y hy "java/lang/IllegalStateException" (Or.inr (Or.inr ⟨h1.1, h1.2.1, h1.2.2, rfl⟩)) hlt n0 _) (cwV 2 hts gL_insert_X9_insert rfl rfl rfl (by decide +kernel) ⟨Nat.le_of_ble_eq_true rfl, Nat.le_of_ble_eq_true rfl⟩) (xc_preV hC hX hP hn9 hD hS hAn hrc) rfl rfl hl.1 rfl (lv_room (Nat.le_of_ble_eq_true rfl)) dL_insert_3 ⟨Nat.le_of_ble_eq_true rfl, Nat.le_of_ble_eq_true rfl⟩) hD hS hA (fun E ce q9 u H locs hu hP hD hS hcell hv9 hcl => ?_)
    obtain ⟨rfl, rfl⟩ := hu
    refine vx_catch (own := RL) (name := "java/lang/IllegalStateException") hown [⟨0, 6, 7, 14⟩, ⟨0, 6, 11, 17⟩] ⟨0, 6, 15, 19⟩ [] htb (List.forall_mem_cons.mpr ⟨Or.inr ⟨by decide, _, hts (.classLink RL 14 "java/lang/IndexOutOfBoundsException") (by decide +kernel), hX.2.2.1 ("java/lang/IllegalStateException", "java/lang/IndexOutOfBoundsException") (by decide)⟩, List.forall_mem_cons.mpr ⟨Or.inr ⟨by decide, _, hts (.classLink RL 17 "java/lang/IllegalArgumentException") (by decide +kernel), hX.2.2.1 ("java/lang/IllegalStateException", "java/lang/IllegalArgumentException") (by decide)⟩, fun z hz => absurd hz List.not_mem_nil⟩⟩) (by decide) (by decide) (hts (.classLink RL 19 "java/lang/IllegalStateException") (by decide +kernel)) (va_Nw.use rfl (hNW (.castable "java/lang/IllegalStateException" "java/lang/IllegalStateException") (by decide +kernel))) hcell hv9 hcl ?_
    refine lv_astore_n (lv' := [(3, .ref q9), (0, .ref (gA g 0)), (1, .int (zI z)), (2, .int (zI y))]) hx hb dL_insert_15 rfl hl (by decide) rfl (fun ls hl => ?_)
    refine lv_ldc (v := -99999) hx hb hown (hts (.constant RL 16 (-99999)) (by decide +kernel)) dL_insert_16 ?_
    refine w_widen (k9 := 7) (n9 := 82) (by decide) (by decide) ?_
    rw [hQ]
    refine vx_ret ?_
    exact pc_iret hx hb hrt hP (by rw [← hAd]; exact hD) (by rw [← hAd]; exact hS) (⟨3, 0, S, L, f, g, (if_neg (by decide)).symm, by decide, rfl, rfl, hR, hO, Or.inr (Or.inr (Or.inl ⟨h1.1, h1.2.1, h1.2.2, rfl, rfl⟩))⟩) dL_insert_18 hlocks
  · refine pc_calli (va_runV (As := [.int (zI z), .int (zI y)]) (rest := []) ⟨hx, hb, hml, hown, hts⟩ (kX9_insert l D k L f g S hR hO z y h1.1 h1.2.1 h1.2.2 n0 _) (cwV 2 hts gL_insert_X9_insert rfl rfl rfl (by decide +kernel) ⟨Nat.le_of_ble_eq_true rfl, Nat.le_of_ble_eq_true rfl⟩) (pc_preV hC hP hn9 hD hAn hrc) rfl rfl hl.1 rfl (lv_room (Nat.le_of_ble_eq_true rfl)) dL_insert_3 ⟨Nat.le_of_ble_eq_true rfl, Nat.le_of_ble_eq_true rfl⟩) hD hS hA (fun r u H locs hu hP hD hS hz => ?_)
    obtain ⟨rfl, G, F, hG, rfl, hc9⟩ := hu
    have hO9 : aOK (insS S z y G) := by
      obtain ⟨zn, rfl⟩ : ∃ zn : Nat, z = (zn : Int) := ⟨z.toNat, by omega⟩
      exact hO.ins h1.1.2 h1.2.2 h1.2.1 hG
    refine w_widen (k9 := 7) (n9 := 82) (by decide) (by decide) ?_
    rw [hQ]
    refine vx_ret ?_
    exact pc_iret hx hb hrt hP (by rw [← hAd]; exact hD) (by rw [← hAd]; exact hS) (⟨0, zI (sN S + 1), insS S z y G, L, F, g, (if_pos rfl).symm, by decide, rfl, rfl, hc9, hO9, Or.inr (Or.inr (Or.inr ⟨h1.1, h1.2.1, h1.2.2, rfl, rfl, G, hG, rfl⟩))⟩) dL_insert_6 hlocks

set_option maxHeartbeats 4000000 in
set_option maxRecDepth 100000 in
theorem kL_remove (l : Launch) (D : va_G) (k : Nat → ClassId) (L : List Nat) (f : Nat → va_E) (g : CG) (S : SA) (hR : cRep k L f g S) (hO : aOK S) (z : Int) (hz : -2147483648 ≤ z ∧ z < 2147483648) (hlt : l.stackTraces = false) (n0 sz : Nat) : Met l yL_remove wsL_remove ({ frames := 9, cells := 7, slots := 82, locals := 189 } : Room) (va_Pc [.ref (gA g 0), .int (zI z)] (xPre D (tyL k) n0 (va_pl L f) sz)) (va_Qi (wQ k (gA g 0) (-99999) (SpRemove S z)) (pB D (va_pl L f) sz) (va_A (va_pl L f) sz)) 7 82 (va_A (va_pl L f) sz) := by
  refine vx_toMet (XC := (vx_X (fun _ : va_W => False) (fun _ _ _ => True) (va_A (va_pl L f) sz))) (vx_ofWH (cc := cL_remove) (maxL := 3) (ret := some .int) (hh := [(0, 5, 6, 14)]) (by decide) rfl ?_) (fun E st t h => by obtain ⟨u, hu, -⟩ := h; exact hu)
  intro p e s m args below meth c s₁ B hml hv
  obtain ⟨rfl, ⟨hsz, hn9, hP, hC, hD0⟩, hX⟩ := hv
  have hK := hC.1
  have hNW := hC.2.1
  have hx := B.exec
  have hb := B.bytes
  have hrt := B.returns
  have hts := atoms_spec (ws := wsL_remove) B.pre
  have hown : s.vm.findClass RL = some m.cls := findClass_of_methodNamed B.named
  have hlocks := B.notSynchronized
  have htb := vx_table (x := yL_remove) (y := yL_remove) (bytes := cL_remove) (maxL' := 3) (ret' := some .int) (hh := [(0, 5, 6, 14)]) B (hts _ List.mem_cons_self)
  subst hsz
  obtain ⟨A, hAd⟩ : ∃ A, A = va_A (va_pl L f) s.heap.size := ⟨_, rfl⟩
  have hD := hD0.self (sz := s.heap.size)
  rw [← hAd] at hD
  have hA : ∀ q : Nat, s.heap.size ≤ q → A q := fun q h => by rw [hAd]; exact Or.inr h
  have hAn : ∀ q : Nat, A q → n0 ≤ q := fun q h => by
    rw [hAd] at h
    rcases h with ⟨k9, e9, hk9⟩ | h
    · exact hD0.2 k9 _ hk9
    · exact Nat.le_trans hn9 h
  have hS : va_S A s.heap s.heap [] := va_S.rf
  have hl := lv_entry ([.ref (gA g 0), .int (zI z)]) (n := 3) (Nat.le_of_ble_eq_true rfl)
  rw [lg_entry_eq]
  generalize (lg_sl ([.ref (gA g 0), .int (zI z)]) ++ List.replicate (3 - (lg_sl ([.ref (gA g 0), .int (zI z)])).length) Slot.unset).toArray = ls at hl ⊢
  have hl : lv_has ls 3 [(0, .ref (gA g 0)), (1, .int (zI z))] := hl
  obtain ⟨Q, hQ⟩ : ∃ Q, Q = vx_MQ below (va_Qi (wQ k (gA g 0) (-99999) (SpRemove S z)) (pB D (va_pl L f) s.heap.size) (va_A (va_pl L f) s.heap.size)) (vx_X (fun _ : va_W => False) (fun _ _ _ => True) (va_A (va_pl L f) s.heap.size)) ([.ref (gA g 0), .int (zI z)] : List Value).toArray s 7 82 (va_A (va_pl L f) s.heap.size) := ⟨_, rfl⟩
  rw [← hQ]
  have hn0 := hO.1
  have hc0 := hO.2.2.2.1
  refine lv_aload_n hx hb dL_remove_0 rfl (lv_at hl 0 rfl) ?_
  refine lv_iload_n hx hb dL_remove_1 rfl (lv_at hl 1 rfl) ?_
  have hrc : ∃ cell : Cell, s.heap[gA g 0]? = some cell ∧ cell.vm.isStatics = false ∧ s.vm.findClass RX9 = some cell.cls := pl_recv hK hP (hR.2.1 0 (by decide)) hR.1.1 (ci := 8) (q := (RX9, TX9, 3)) rfl
  rcases (show (¬ (0 ≤ z ∧ z < sN S)) ∨ (0 ≤ z ∧ z < sN S) by omega) with h1 | h1
  · refine pz_callx (vx_runV (As := [.int (zI z)]) (rest := []) ⟨hx, hb, hml, hown, hts⟩ (kX9_remove_x l D k L f g S hR hO z hz h1 hlt n0 _) (cwV 1 hts gL_remove_X9_remove rfl rfl rfl (by decide +kernel) ⟨Nat.le_of_ble_eq_true rfl, Nat.le_of_ble_eq_true rfl⟩) (xc_preV hC hX hP hn9 hD hS hAn hrc) rfl rfl hl.1 rfl (lv_room (Nat.le_of_ble_eq_true rfl)) dL_remove_2 ⟨Nat.le_of_ble_eq_true rfl, Nat.le_of_ble_eq_true rfl⟩) hD hS hA (fun E ce q9 u H locs hu hP hD hS hcell hv9 hcl => ?_)
    obtain ⟨rfl, rfl⟩ := hu
    refine vx_catch (own := RL) (name := "java/lang/IndexOutOfBoundsException") hown [] ⟨0, 5, 6, 14⟩ [] htb (fun z hz => absurd hz List.not_mem_nil) (by decide) (by decide) (hts (.classLink RL 14 "java/lang/IndexOutOfBoundsException") (by decide +kernel)) (va_Nw.use rfl (hNW (.castable "java/lang/IndexOutOfBoundsException" "java/lang/IndexOutOfBoundsException") (by decide +kernel))) hcell hv9 hcl ?_
    refine lv_astore_n (lv' := [(2, .ref q9), (0, .ref (gA g 0)), (1, .int (zI z))]) hx hb dL_remove_6 rfl hl (by decide) rfl (fun ls hl => ?_)
    refine lv_ldc (v := -99999) hx hb hown (hts (.constant RL 16 (-99999)) (by decide +kernel)) dL_remove_7 ?_
    refine w_widen (k9 := 7) (n9 := 82) (by decide) (by decide) ?_
    rw [hQ]
    refine vx_ret ?_
    exact pc_iret hx hb hrt hP (by rw [← hAd]; exact hD) (by rw [← hAd]; exact hS) (⟨1, 0, S, L, f, g, (if_neg (by decide)).symm, by decide, rfl, rfl, hR, hO, Or.inl ⟨h1, rfl, rfl⟩⟩) dL_remove_9 hlocks
  · refine pc_calli (va_runV (As := [.int (zI z)]) (rest := []) ⟨hx, hb, hml, hown, hts⟩ (kX9_remove l D k L f g S hR hO z h1 n0 _) (cwV 1 hts gL_remove_X9_remove rfl rfl rfl (by decide +kernel) ⟨Nat.le_of_ble_eq_true rfl, Nat.le_of_ble_eq_true rfl⟩) (pc_preV hC hP hn9 hD hAn hrc) rfl rfl hl.1 rfl (lv_room (Nat.le_of_ble_eq_true rfl)) dL_remove_2 ⟨Nat.le_of_ble_eq_true rfl, Nat.le_of_ble_eq_true rfl⟩) hD hS hA (fun r u H locs hu hP hD hS hz => ?_)
    obtain ⟨rfl, F, rfl, hc9⟩ := hu
    have hO9 : aOK (remS S z (fun i => fa_fill (clF (sR S i) z) (sR S i) 24)) := by
      obtain ⟨zn, rfl⟩ : ∃ zn : Nat, z = (zn : Int) := ⟨z.toNat, by omega⟩
      exact hO.rem h1.2
    refine w_widen (k9 := 7) (n9 := 82) (by decide) (by decide) ?_
    rw [hQ]
    refine vx_ret ?_
    exact pc_iret hx hb hrt hP (by rw [← hAd]; exact hD) (by rw [← hAd]; exact hS) (⟨0, sT S z.toNat, remS S z (fun i => fa_fill (clF (sR S i) z) (sR S i) 24), L, F, g, (if_pos rfl).symm, by decide, rfl, rfl, hc9, hO9, Or.inr ⟨h1, rfl, rfl, rfl⟩⟩) dL_remove_5 hlocks

set_option maxHeartbeats 4000000 in
set_option maxRecDepth 100000 in
theorem kL_mark (l : Launch) (D : va_G) (k : Nat → ClassId) (L : List Nat) (f : Nat → va_E) (g : CG) (S : SA) (hR : cRep k L f g S) (hO : aOK S) (z : Int) (hz : -2147483648 ≤ z ∧ z < 2147483648) (y : Int) (hy : -2147483648 ≤ y ∧ y < 2147483648) (x : Int) (hx9 : -2147483648 ≤ x ∧ x < 2147483648) (hlt : l.stackTraces = false) (n0 sz : Nat) : Met l yL_mark wsL_mark ({ frames := 9, cells := 7, slots := 82, locals := 189 } : Room) (va_Pc [.ref (gA g 0), .int (zI z), .int (zI y), .int (zI x)] (xPre D (tyL k) n0 (va_pl L f) sz)) (va_Qi (wQ k (gA g 0) (-99999) (SpMark S z y x)) (pB D (va_pl L f) sz) (va_A (va_pl L f) sz)) 7 82 (va_A (va_pl L f) sz) := by
  refine vx_toMet (XC := (vx_X (fun _ : va_W => False) (fun _ _ _ => True) (va_A (va_pl L f) sz))) (vx_ofWH (cc := cL_mark) (maxL := 5) (ret := some .int) (hh := [(0, 15, 16, 14), (0, 15, 21, 17)]) (by decide) rfl ?_) (fun E st t h => by obtain ⟨u, hu, -⟩ := h; exact hu)
  intro p e s m args below meth c s₁ B hml hv
  obtain ⟨rfl, ⟨hsz, hn9, hP, hC, hD0⟩, hX⟩ := hv
  have hK := hC.1
  have hNW := hC.2.1
  have hx := B.exec
  have hb := B.bytes
  have hrt := B.returns
  have hts := atoms_spec (ws := wsL_mark) B.pre
  have hown : s.vm.findClass RL = some m.cls := findClass_of_methodNamed B.named
  have hlocks := B.notSynchronized
  have htb := vx_table (x := yL_mark) (y := yL_mark) (bytes := cL_mark) (maxL' := 5) (ret' := some .int) (hh := [(0, 15, 16, 14), (0, 15, 21, 17)]) B (hts _ List.mem_cons_self)
  subst hsz
  obtain ⟨A, hAd⟩ : ∃ A, A = va_A (va_pl L f) s.heap.size := ⟨_, rfl⟩
  have hD := hD0.self (sz := s.heap.size)
  rw [← hAd] at hD
  have hA : ∀ q : Nat, s.heap.size ≤ q → A q := fun q h => by rw [hAd]; exact Or.inr h
  have hAn : ∀ q : Nat, A q → n0 ≤ q := fun q h => by
    rw [hAd] at h
    rcases h with ⟨k9, e9, hk9⟩ | h
    · exact hD0.2 k9 _ hk9
    · exact Nat.le_trans hn9 h
  have hS : va_S A s.heap s.heap [] := va_S.rf
  have hl := lv_entry ([.ref (gA g 0), .int (zI z), .int (zI y), .int (zI x)]) (n := 5) (Nat.le_of_ble_eq_true rfl)
  rw [lg_entry_eq]
  generalize (lg_sl ([.ref (gA g 0), .int (zI z), .int (zI y), .int (zI x)]) ++ List.replicate (5 - (lg_sl ([.ref (gA g 0), .int (zI z), .int (zI y), .int (zI x)])).length) Slot.unset).toArray = ls at hl ⊢
  have hl : lv_has ls 5 [(0, .ref (gA g 0)), (1, .int (zI z)), (2, .int (zI y)), (3, .int (zI x))] := hl
  obtain ⟨Q, hQ⟩ : ∃ Q, Q = vx_MQ below (va_Qi (wQ k (gA g 0) (-99999) (SpMark S z y x)) (pB D (va_pl L f) s.heap.size) (va_A (va_pl L f) s.heap.size)) (vx_X (fun _ : va_W => False) (fun _ _ _ => True) (va_A (va_pl L f) s.heap.size)) ([.ref (gA g 0), .int (zI z), .int (zI y), .int (zI x)] : List Value).toArray s 7 82 (va_A (va_pl L f) s.heap.size) := ⟨_, rfl⟩
  rw [← hQ]
  have hn0 := hO.1
  have hc0 := hO.2.2.2.1
  refine lv_aload_n hx hb dL_mark_0 rfl (lv_at hl 0 rfl) ?_
  refine lv_iload_n hx hb dL_mark_1 rfl (lv_at hl 1 rfl) ?_
  refine lv_iload_n hx hb dL_mark_2 rfl (lv_at hl 2 rfl) ?_
  refine lv_iload_n hx hb dL_mark_3 rfl (lv_at hl 3 rfl) ?_
  have hrc : ∃ cell : Cell, s.heap[gA g 0]? = some cell ∧ cell.vm.isStatics = false ∧ s.vm.findClass RX9 = some cell.cls := pl_recv hK hP (hR.2.1 0 (by decide)) hR.1.1 (ci := 8) (q := (RX9, TX9, 3)) rfl
  rcases (show (¬ (0 ≤ z ∧ z < 4)) ∨ ((0 ≤ z ∧ z < 4) ∧ ¬ (0 ≤ y ∧ y < x ∧ x ≤ sN S)) ∨ ((0 ≤ z ∧ z < 4) ∧ (0 ≤ y ∧ y < x ∧ x ≤ sN S)) by omega) with h1 | h1 | h1
  · refine pz_callx (vx_runV (As := [.int (zI z), .int (zI y), .int (zI x)]) (rest := []) ⟨hx, hb, hml, hown, hts⟩ (kX9_mark_x l D k L f g S hR hO z hz y hy x hx9 h1 hlt n0 _) (cwV 3 hts gL_mark_X9_mark rfl rfl rfl (by decide +kernel) ⟨Nat.le_of_ble_eq_true rfl, Nat.le_of_ble_eq_true rfl⟩) (xc_preV hC hX hP hn9 hD hS hAn hrc) rfl rfl hl.1 rfl (lv_room (Nat.le_of_ble_eq_true rfl)) dL_mark_4 ⟨Nat.le_of_ble_eq_true rfl, Nat.le_of_ble_eq_true rfl⟩) hD hS hA (fun E ce q9 u H locs hu hP hD hS hcell hv9 hcl => ?_)
    obtain ⟨rfl, rfl⟩ := hu
    refine vx_catch (own := RL) (name := "java/lang/IndexOutOfBoundsException") hown [] ⟨0, 15, 16, 14⟩ [⟨0, 15, 21, 17⟩] htb (fun z hz => absurd hz List.not_mem_nil) (by decide) (by decide) (hts (.classLink RL 14 "java/lang/IndexOutOfBoundsException") (by decide +kernel)) (va_Nw.use rfl (hNW (.castable "java/lang/IndexOutOfBoundsException" "java/lang/IndexOutOfBoundsException") (by decide +kernel))) hcell hv9 hcl ?_
    refine lv_astore (lv' := [(4, .ref q9), (0, .ref (gA g 0)), (1, .int (zI z)), (2, .int (zI y)), (3, .int (zI x))]) hx hb dL_mark_16 hl (by decide) rfl (fun ls hl => ?_)
    refine lv_ldc (v := -99999) hx hb hown (hts (.constant RL 16 (-99999)) (by decide +kernel)) dL_mark_18 ?_
    refine w_widen (k9 := 7) (n9 := 82) (by decide) (by decide) ?_
    rw [hQ]
    refine vx_ret ?_
    exact pc_iret hx hb hrt hP (by rw [← hAd]; exact hD) (by rw [← hAd]; exact hS) (⟨1, 0, S, L, f, g, (if_neg (by decide)).symm, by decide, rfl, rfl, hR, hO, Or.inl ⟨h1, rfl, rfl⟩⟩) dL_mark_20 hlocks
  · refine pz_callx (vx_runV (As := [.int (zI z), .int (zI y), .int (zI x)]) (rest := []) ⟨hx, hb, hml, hown, hts⟩ (kX9_mark_x2 l D k L f g S hR hO y hy x hx9 z h1.1 h1.2 hlt n0 _) (cwV 3 hts gL_mark_X9_mark rfl rfl rfl (by decide +kernel) ⟨Nat.le_of_ble_eq_true rfl, Nat.le_of_ble_eq_true rfl⟩) (xc_preV hC hX hP hn9 hD hS hAn hrc) rfl rfl hl.1 rfl (lv_room (Nat.le_of_ble_eq_true rfl)) dL_mark_4 ⟨Nat.le_of_ble_eq_true rfl, Nat.le_of_ble_eq_true rfl⟩) hD hS hA (fun E ce q9 u H locs hu hP hD hS hcell hv9 hcl => ?_)
    obtain ⟨rfl, rfl⟩ := hu
    refine vx_catch (own := RL) (name := "java/lang/IllegalArgumentException") hown [⟨0, 15, 16, 14⟩] ⟨0, 15, 21, 17⟩ [] htb (List.forall_mem_cons.mpr ⟨Or.inr ⟨by decide, _, hts (.classLink RL 14 "java/lang/IndexOutOfBoundsException") (by decide +kernel), hX.2.2.1 ("java/lang/IllegalArgumentException", "java/lang/IndexOutOfBoundsException") (by decide)⟩, fun z hz => absurd hz List.not_mem_nil⟩) (by decide) (by decide) (hts (.classLink RL 17 "java/lang/IllegalArgumentException") (by decide +kernel)) (va_Nw.use rfl (hNW (.castable "java/lang/IllegalArgumentException" "java/lang/IllegalArgumentException") (by decide +kernel))) hcell hv9 hcl ?_
    refine lv_astore (lv' := [(4, .ref q9), (0, .ref (gA g 0)), (1, .int (zI z)), (2, .int (zI y)), (3, .int (zI x))]) hx hb dL_mark_21 hl (by decide) rfl (fun ls hl => ?_)
    refine lv_ldc (v := -99999) hx hb hown (hts (.constant RL 16 (-99999)) (by decide +kernel)) dL_mark_23 ?_
    refine w_widen (k9 := 7) (n9 := 82) (by decide) (by decide) ?_
    rw [hQ]
    refine vx_ret ?_
    exact pc_iret hx hb hrt hP (by rw [← hAd]; exact hD) (by rw [← hAd]; exact hS) (⟨2, 0, S, L, f, g, (if_neg (by decide)).symm, by decide, rfl, rfl, hR, hO, Or.inr (Or.inl ⟨h1.1, h1.2, rfl, rfl⟩)⟩) dL_mark_25 hlocks
  · refine pc_calli (va_runV (As := [.int (zI z), .int (zI y), .int (zI x)]) (rest := []) ⟨hx, hb, hml, hown, hts⟩ (kX9_mark l D k L f g S hR hO z h1.1 y x h1.2 n0 _) (cwV 3 hts gL_mark_X9_mark rfl rfl rfl (by decide +kernel) ⟨Nat.le_of_ble_eq_true rfl, Nat.le_of_ble_eq_true rfl⟩) (pc_preV hC hP hn9 hD hAn hrc) rfl rfl hl.1 rfl (lv_room (Nat.le_of_ble_eq_true rfl)) dL_mark_4 ⟨Nat.le_of_ble_eq_true rfl, Nat.le_of_ble_eq_true rfl⟩) hD hS hA (fun r u H locs hu hP hD hS hz => ?_)
    obtain ⟨rfl, rfl⟩ := hu
    have hc9 : cRep k L _ g (kindS S z.toNat (addR (sR S z.toNat) y x)) := hR.marks hO (by omega) _
    have hO9 : aOK (kindS S z.toNat (addR (sR S z.toNat) y x)) := aOK_setK hO (by
      obtain ⟨yn, rfl⟩ : ∃ yn : Nat, y = (yn : Int) := ⟨y.toNat, by omega⟩
      obtain ⟨xn, rfl⟩ : ∃ xn : Nat, x = (xn : Int) := ⟨x.toNat, by omega⟩
      exact add_ok hO (by omega) ⟨by omega, by omega⟩)
    refine zr_ifb_eq (tgt := 14) hx hb dL_mark_7 (by decide) (fun c1 => ?_) (fun c1 => ?_)
    · refine zr_const hx hb dL_mark_14 ?_
      refine zr_top (y := bI (!hasB (sR S z.toNat) y x)) (by rw [c1]; decide) ?_
      refine w_widen (k9 := 7) (n9 := 82) (by decide) (by decide) ?_
      rw [hQ]
      refine vx_ret ?_
      exact pc_iret hx hb hrt hP (by rw [← hAd]; exact hD) (by rw [← hAd]; exact hS) (⟨0, bI (!hasB (sR S z.toNat) y x), kindS S z.toNat (addR (sR S z.toNat) y x), L, _, g, (if_pos rfl).symm, by decide, rfl, rfl, hc9, hO9, Or.inr (Or.inr ⟨h1.1, h1.2, rfl, rfl, rfl⟩)⟩) dL_mark_15 hlocks
    · refine zr_const hx hb dL_mark_10 ?_
      refine lv_goto (tgt := 15) hx hb dL_mark_11 (by decide) ?_
      refine zr_top (y := bI (!hasB (sR S z.toNat) y x)) (by rw [c1]; decide) ?_
      refine w_widen (k9 := 7) (n9 := 82) (by decide) (by decide) ?_
      rw [hQ]
      refine vx_ret ?_
      exact pc_iret hx hb hrt hP (by rw [← hAd]; exact hD) (by rw [← hAd]; exact hS) (⟨0, bI (!hasB (sR S z.toNat) y x), kindS S z.toNat (addR (sR S z.toNat) y x), L, _, g, (if_pos rfl).symm, by decide, rfl, rfl, hc9, hO9, Or.inr (Or.inr ⟨h1.1, h1.2, rfl, rfl, rfl⟩)⟩) dL_mark_15 hlocks

set_option maxHeartbeats 4000000 in
set_option maxRecDepth 100000 in
theorem kL_unmark (l : Launch) (D : va_G) (k : Nat → ClassId) (L : List Nat) (f : Nat → va_E) (g : CG) (S : SA) (hR : cRep k L f g S) (hO : aOK S) (z : Int) (hz : -2147483648 ≤ z ∧ z < 2147483648) (y : Int) (hy : -2147483648 ≤ y ∧ y < 2147483648) (hlt : l.stackTraces = false) (n0 sz : Nat) : Met l yL_unmark wsL_unmark ({ frames := 9, cells := 7, slots := 82, locals := 189 } : Room) (va_Pc [.ref (gA g 0), .int (zI z), .int (zI y)] (xPre D (tyL k) n0 (va_pl L f) sz)) (va_Qi (wQ k (gA g 0) (-99999) (SpUnmark S z y)) (pB D (va_pl L f) sz) (va_A (va_pl L f) sz)) 7 82 (va_A (va_pl L f) sz) := by
  refine vx_toMet (XC := (vx_X (fun _ : va_W => False) (fun _ _ _ => True) (va_A (va_pl L f) sz))) (vx_ofWH (cc := cL_unmark) (maxL := 4) (ret := some .int) (hh := [(0, 6, 7, 14)]) (by decide) rfl ?_) (fun E st t h => by obtain ⟨u, hu, -⟩ := h; exact hu)
  intro p e s m args below meth c s₁ B hml hv
  obtain ⟨rfl, ⟨hsz, hn9, hP, hC, hD0⟩, hX⟩ := hv
  have hK := hC.1
  have hNW := hC.2.1
  have hx := B.exec
  have hb := B.bytes
  have hrt := B.returns
  have hts := atoms_spec (ws := wsL_unmark) B.pre
  have hown : s.vm.findClass RL = some m.cls := findClass_of_methodNamed B.named
  have hlocks := B.notSynchronized
  have htb := vx_table (x := yL_unmark) (y := yL_unmark) (bytes := cL_unmark) (maxL' := 4) (ret' := some .int) (hh := [(0, 6, 7, 14)]) B (hts _ List.mem_cons_self)
  subst hsz
  obtain ⟨A, hAd⟩ : ∃ A, A = va_A (va_pl L f) s.heap.size := ⟨_, rfl⟩
  have hD := hD0.self (sz := s.heap.size)
  rw [← hAd] at hD
  have hA : ∀ q : Nat, s.heap.size ≤ q → A q := fun q h => by rw [hAd]; exact Or.inr h
  have hAn : ∀ q : Nat, A q → n0 ≤ q := fun q h => by
    rw [hAd] at h
    rcases h with ⟨k9, e9, hk9⟩ | h
    · exact hD0.2 k9 _ hk9
    · exact Nat.le_trans hn9 h
  have hS : va_S A s.heap s.heap [] := va_S.rf
  have hl := lv_entry ([.ref (gA g 0), .int (zI z), .int (zI y)]) (n := 4) (Nat.le_of_ble_eq_true rfl)
  rw [lg_entry_eq]
  generalize (lg_sl ([.ref (gA g 0), .int (zI z), .int (zI y)]) ++ List.replicate (4 - (lg_sl ([.ref (gA g 0), .int (zI z), .int (zI y)])).length) Slot.unset).toArray = ls at hl ⊢
  have hl : lv_has ls 4 [(0, .ref (gA g 0)), (1, .int (zI z)), (2, .int (zI y))] := hl
  obtain ⟨Q, hQ⟩ : ∃ Q, Q = vx_MQ below (va_Qi (wQ k (gA g 0) (-99999) (SpUnmark S z y)) (pB D (va_pl L f) s.heap.size) (va_A (va_pl L f) s.heap.size)) (vx_X (fun _ : va_W => False) (fun _ _ _ => True) (va_A (va_pl L f) s.heap.size)) ([.ref (gA g 0), .int (zI z), .int (zI y)] : List Value).toArray s 7 82 (va_A (va_pl L f) s.heap.size) := ⟨_, rfl⟩
  rw [← hQ]
  have hn0 := hO.1
  have hc0 := hO.2.2.2.1
  refine lv_aload_n hx hb dL_unmark_0 rfl (lv_at hl 0 rfl) ?_
  refine lv_iload_n hx hb dL_unmark_1 rfl (lv_at hl 1 rfl) ?_
  refine lv_iload_n hx hb dL_unmark_2 rfl (lv_at hl 2 rfl) ?_
  have hrc : ∃ cell : Cell, s.heap[gA g 0]? = some cell ∧ cell.vm.isStatics = false ∧ s.vm.findClass RX9 = some cell.cls := pl_recv hK hP (hR.2.1 0 (by decide)) hR.1.1 (ci := 8) (q := (RX9, TX9, 3)) rfl
  rcases (show (¬ (0 ≤ z ∧ z < 4)) ∨ ((0 ≤ z ∧ z < 4) ∧ ¬ (0 ≤ y ∧ y < ((sizeR (sR S z.toNat) : Nat) : Int))) ∨ ((0 ≤ z ∧ z < 4) ∧ (0 ≤ y ∧ y < ((sizeR (sR S z.toNat) : Nat) : Int))) by omega) with h1 | h1 | h1
  · refine pz_callx (vx_runV (As := [.int (zI z), .int (zI y)]) (rest := []) ⟨hx, hb, hml, hown, hts⟩ (kX9_unmark_x l D k L f g S hR hO z hz y hy h1 hlt n0 _) (cwV 2 hts gL_unmark_X9_unmark rfl rfl rfl (by decide +kernel) ⟨Nat.le_of_ble_eq_true rfl, Nat.le_of_ble_eq_true rfl⟩) (xc_preV hC hX hP hn9 hD hS hAn hrc) rfl rfl hl.1 rfl (lv_room (Nat.le_of_ble_eq_true rfl)) dL_unmark_3 ⟨Nat.le_of_ble_eq_true rfl, Nat.le_of_ble_eq_true rfl⟩) hD hS hA (fun E ce q9 u H locs hu hP hD hS hcell hv9 hcl => ?_)
    obtain ⟨rfl, rfl⟩ := hu
    refine vx_catch (own := RL) (name := "java/lang/IndexOutOfBoundsException") hown [] ⟨0, 6, 7, 14⟩ [] htb (fun z hz => absurd hz List.not_mem_nil) (by decide) (by decide) (hts (.classLink RL 14 "java/lang/IndexOutOfBoundsException") (by decide +kernel)) (va_Nw.use rfl (hNW (.castable "java/lang/IndexOutOfBoundsException" "java/lang/IndexOutOfBoundsException") (by decide +kernel))) hcell hv9 hcl ?_
    refine lv_astore_n (lv' := [(3, .ref q9), (0, .ref (gA g 0)), (1, .int (zI z)), (2, .int (zI y))]) hx hb dL_unmark_7 rfl hl (by decide) rfl (fun ls hl => ?_)
    refine lv_ldc (v := -99999) hx hb hown (hts (.constant RL 16 (-99999)) (by decide +kernel)) dL_unmark_8 ?_
    refine w_widen (k9 := 7) (n9 := 82) (by decide) (by decide) ?_
    rw [hQ]
    refine vx_ret ?_
    exact pc_iret hx hb hrt hP (by rw [← hAd]; exact hD) (by rw [← hAd]; exact hS) (⟨1, 0, S, L, f, g, (if_neg (by decide)).symm, by decide, rfl, rfl, hR, hO, Or.inl ⟨h1, rfl, rfl⟩⟩) dL_unmark_10 hlocks
  · refine pz_callx (vx_runV (As := [.int (zI z), .int (zI y)]) (rest := []) ⟨hx, hb, hml, hown, hts⟩ (kX9_unmark_x2 l D k L f g S hR hO z h1.1 y hy (lin_no (mk_p S z.toNat) (mk_24 hO (by omega)) h1.2) hlt n0 _) (cwV 2 hts gL_unmark_X9_unmark rfl rfl rfl (by decide +kernel) ⟨Nat.le_of_ble_eq_true rfl, Nat.le_of_ble_eq_true rfl⟩) (xc_preV hC hX hP hn9 hD hS hAn hrc) rfl rfl hl.1 rfl (lv_room (Nat.le_of_ble_eq_true rfl)) dL_unmark_3 ⟨Nat.le_of_ble_eq_true rfl, Nat.le_of_ble_eq_true rfl⟩) hD hS hA (fun E ce q9 u H locs hu hP hD hS hcell hv9 hcl => ?_)
    obtain ⟨rfl, rfl⟩ := hu
    refine vx_catch (own := RL) (name := "java/lang/IndexOutOfBoundsException") hown [] ⟨0, 6, 7, 14⟩ [] htb (fun z hz => absurd hz List.not_mem_nil) (by decide) (by decide) (hts (.classLink RL 14 "java/lang/IndexOutOfBoundsException") (by decide +kernel)) (va_Nw.use rfl (hNW (.castable "java/lang/IndexOutOfBoundsException" "java/lang/IndexOutOfBoundsException") (by decide +kernel))) hcell hv9 hcl ?_
    refine lv_astore_n (lv' := [(3, .ref q9), (0, .ref (gA g 0)), (1, .int (zI z)), (2, .int (zI y))]) hx hb dL_unmark_7 rfl hl (by decide) rfl (fun ls hl => ?_)
    refine lv_ldc (v := -99999) hx hb hown (hts (.constant RL 16 (-99999)) (by decide +kernel)) dL_unmark_8 ?_
    refine w_widen (k9 := 7) (n9 := 82) (by decide) (by decide) ?_
    rw [hQ]
    refine vx_ret ?_
    exact pc_iret hx hb hrt hP (by rw [← hAd]; exact hD) (by rw [← hAd]; exact hS) (⟨1, 0, S, L, f, g, (if_neg (by decide)).symm, by decide, rfl, rfl, hR, hO, Or.inr (Or.inl ⟨h1.1, h1.2, rfl, rfl⟩)⟩) dL_unmark_10 hlocks
  · obtain ⟨ya, yb, ha, hb9, hq2, hq3⟩ := lin_kth (mk_p S z.toNat) (mk_24 hO (by omega)) h1.2
    refine pc_calli (va_runV (As := [.int (zI z), .int (zI y)]) (rest := []) ⟨hx, hb, hml, hown, hts⟩ (kX9_unmark l D k L f g S hR hO z h1.1 y hy ya yb ha hb9 hq2 hq3 n0 _) (cwV 2 hts gL_unmark_X9_unmark rfl rfl rfl (by decide +kernel) ⟨Nat.le_of_ble_eq_true rfl, Nat.le_of_ble_eq_true rfl⟩) (pc_preV hC hP hn9 hD hAn hrc) rfl rfl hl.1 rfl (lv_room (Nat.le_of_ble_eq_true rfl)) dL_unmark_3 ⟨Nat.le_of_ble_eq_true rfl, Nat.le_of_ble_eq_true rfl⟩) hD hS hA (fun r u H locs hu hP hD hS hz => ?_)
    obtain ⟨rfl, rfl⟩ := hu
    have hc9 : cRep k L _ g (kindS S z.toNat (dropR (sR S z.toNat) (ya : Int) (yb : Int))) := hR.marks hO (by omega) _
    have hO9 : aOK (kindS S z.toNat (dropR (sR S z.toNat) (ya : Int) (yb : Int))) := aOK_setK hO (drop_ok hO (by omega) _ _)
    refine w_widen (k9 := 7) (n9 := 82) (by decide) (by decide) ?_
    rw [hQ]
    refine vx_ret ?_
    exact pc_iret hx hb hrt hP (by rw [← hAd]; exact hD) (by rw [← hAd]; exact hS) (⟨0, zI ((sizeR (dropR (sR S z.toNat) (ya : Int) (yb : Int)) : Nat) : Int), kindS S z.toNat (dropR (sR S z.toNat) (ya : Int) (yb : Int)), L, _, g, (if_pos rfl).symm, by decide, rfl, rfl, hc9, hO9, Or.inr (Or.inr ⟨h1.1, rfl, ya, yb, ha, hb9, hq2, hq3, rfl, rfl⟩)⟩) dL_unmark_6 hlocks

set_option maxHeartbeats 4000000 in
set_option maxRecDepth 100000 in
theorem kL_letter (l : Launch) (D : va_G) (k : Nat → ClassId) (L : List Nat) (f : Nat → va_E) (g : CG) (S : SA) (hR : cRep k L f g S) (hO : aOK S) (z : Int) (hz : -2147483648 ≤ z ∧ z < 2147483648) (hlt : l.stackTraces = false) (n0 sz : Nat) : Met l yL_letter wsL_letter ({ frames := 9, cells := 7, slots := 82, locals := 189 } : Room) (va_Pc [.ref (gA g 0), .int (zI z)] (xPre D (tyL k) n0 (va_pl L f) sz)) (va_Qi (wQ k (gA g 0) (-99999) (SpLetter S z)) (pB D (va_pl L f) sz) (va_A (va_pl L f) sz)) 7 82 (va_A (va_pl L f) sz) := by
  refine vx_toMet (XC := (vx_X (fun _ : va_W => False) (fun _ _ _ => True) (va_A (va_pl L f) sz))) (vx_ofWH (cc := cL_letter) (maxL := 3) (ret := some .int) (hh := [(0, 5, 6, 17), (0, 5, 10, 19)]) (by decide) rfl ?_) (fun E st t h => by obtain ⟨u, hu, -⟩ := h; exact hu)
  intro p e s m args below meth c s₁ B hml hv
  obtain ⟨rfl, ⟨hsz, hn9, hP, hC, hD0⟩, hX⟩ := hv
  have hK := hC.1
  have hNW := hC.2.1
  have hx := B.exec
  have hb := B.bytes
  have hrt := B.returns
  have hts := atoms_spec (ws := wsL_letter) B.pre
  have hown : s.vm.findClass RL = some m.cls := findClass_of_methodNamed B.named
  have hlocks := B.notSynchronized
  have htb := vx_table (x := yL_letter) (y := yL_letter) (bytes := cL_letter) (maxL' := 3) (ret' := some .int) (hh := [(0, 5, 6, 17), (0, 5, 10, 19)]) B (hts _ List.mem_cons_self)
  subst hsz
  obtain ⟨A, hAd⟩ : ∃ A, A = va_A (va_pl L f) s.heap.size := ⟨_, rfl⟩
  have hD := hD0.self (sz := s.heap.size)
  rw [← hAd] at hD
  have hA : ∀ q : Nat, s.heap.size ≤ q → A q := fun q h => by rw [hAd]; exact Or.inr h
  have hAn : ∀ q : Nat, A q → n0 ≤ q := fun q h => by
    rw [hAd] at h
    rcases h with ⟨k9, e9, hk9⟩ | h
    · exact hD0.2 k9 _ hk9
    · exact Nat.le_trans hn9 h
  have hS : va_S A s.heap s.heap [] := va_S.rf
  have hl := lv_entry ([.ref (gA g 0), .int (zI z)]) (n := 3) (Nat.le_of_ble_eq_true rfl)
  rw [lg_entry_eq]
  generalize (lg_sl ([.ref (gA g 0), .int (zI z)]) ++ List.replicate (3 - (lg_sl ([.ref (gA g 0), .int (zI z)])).length) Slot.unset).toArray = ls at hl ⊢
  have hl : lv_has ls 3 [(0, .ref (gA g 0)), (1, .int (zI z))] := hl
  obtain ⟨Q, hQ⟩ : ∃ Q, Q = vx_MQ below (va_Qi (wQ k (gA g 0) (-99999) (SpLetter S z)) (pB D (va_pl L f) s.heap.size) (va_A (va_pl L f) s.heap.size)) (vx_X (fun _ : va_W => False) (fun _ _ _ => True) (va_A (va_pl L f) s.heap.size)) ([.ref (gA g 0), .int (zI z)] : List Value).toArray s 7 82 (va_A (va_pl L f) s.heap.size) := ⟨_, rfl⟩
  rw [← hQ]
  have hn0 := hO.1
  have hc0 := hO.2.2.2.1
  refine lv_aload_n hx hb dL_letter_0 rfl (lv_at hl 0 rfl) ?_
  refine lv_iload_n hx hb dL_letter_1 rfl (lv_at hl 1 rfl) ?_
  have hrc : ∃ cell : Cell, s.heap[gA g 0]? = some cell ∧ cell.vm.isStatics = false ∧ s.vm.findClass RX9 = some cell.cls := pl_recv hK hP (hR.2.1 0 (by decide)) hR.1.1 (ci := 8) (q := (RX9, TX9, 3)) rfl
  rcases (show (¬ (0 ≤ z ∧ z < 6)) ∨ ((0 ≤ z ∧ z < 6) ∧ sC S = 30) ∨ ((0 ≤ z ∧ z < 6) ∧ sC S < 30) by omega) with h1 | h1 | h1
  · refine pz_callx (vx_runV (As := [.int (zI z)]) (rest := []) ⟨hx, hb, hml, hown, hts⟩ (kX9_letter_x l D k L f g S hR hO z hz h1 hlt n0 _) (cwV 1 hts gL_letter_X9_letter rfl rfl rfl (by decide +kernel) ⟨Nat.le_of_ble_eq_true rfl, Nat.le_of_ble_eq_true rfl⟩) (xc_preV hC hX hP hn9 hD hS hAn hrc) rfl rfl hl.1 rfl (lv_room (Nat.le_of_ble_eq_true rfl)) dL_letter_2 ⟨Nat.le_of_ble_eq_true rfl, Nat.le_of_ble_eq_true rfl⟩) hD hS hA (fun E ce q9 u H locs hu hP hD hS hcell hv9 hcl => ?_)
    obtain ⟨rfl, rfl⟩ := hu
    refine vx_catch (own := RL) (name := "java/lang/IllegalArgumentException") hown [] ⟨0, 5, 6, 17⟩ [⟨0, 5, 10, 19⟩] htb (fun z hz => absurd hz List.not_mem_nil) (by decide) (by decide) (hts (.classLink RL 17 "java/lang/IllegalArgumentException") (by decide +kernel)) (va_Nw.use rfl (hNW (.castable "java/lang/IllegalArgumentException" "java/lang/IllegalArgumentException") (by decide +kernel))) hcell hv9 hcl ?_
    refine lv_astore_n (lv' := [(2, .ref q9), (0, .ref (gA g 0)), (1, .int (zI z))]) hx hb dL_letter_6 rfl hl (by decide) rfl (fun ls hl => ?_)
    refine lv_ldc (v := -99999) hx hb hown (hts (.constant RL 16 (-99999)) (by decide +kernel)) dL_letter_7 ?_
    refine w_widen (k9 := 7) (n9 := 82) (by decide) (by decide) ?_
    rw [hQ]
    refine vx_ret ?_
    exact pc_iret hx hb hrt hP (by rw [← hAd]; exact hD) (by rw [← hAd]; exact hS) (⟨1, 0, S, L, f, g, (if_neg (by decide)).symm, by decide, rfl, rfl, hR, hO, Or.inl ⟨h1, rfl, rfl⟩⟩) dL_letter_9 hlocks
  · have hap := kX9_letter_x2 l D k L f g S hR hO z.toNat (by omega) (Or.inl (by omega)) hlt n0 s.heap.size
    rw [Int.toNat_of_nonneg h1.1.1] at hap
    refine pz_callx (vx_runV (As := [.int (zI z)]) (rest := []) ⟨hx, hb, hml, hown, hts⟩ hap (cwV 1 hts gL_letter_X9_letter rfl rfl rfl (by decide +kernel) ⟨Nat.le_of_ble_eq_true rfl, Nat.le_of_ble_eq_true rfl⟩) (xc_preV hC hX hP hn9 hD hS hAn hrc) rfl rfl hl.1 rfl (lv_room (Nat.le_of_ble_eq_true rfl)) dL_letter_2 ⟨Nat.le_of_ble_eq_true rfl, Nat.le_of_ble_eq_true rfl⟩) hD hS hA (fun E ce q9 u H locs hu hP hD hS hcell hv9 hcl => ?_)
    obtain ⟨rfl, rfl⟩ := hu
    refine vx_catch (own := RL) (name := "java/lang/IllegalStateException") hown [⟨0, 5, 6, 17⟩] ⟨0, 5, 10, 19⟩ [] htb (List.forall_mem_cons.mpr ⟨Or.inr ⟨by decide, _, hts (.classLink RL 17 "java/lang/IllegalArgumentException") (by decide +kernel), hX.2.2.1 ("java/lang/IllegalStateException", "java/lang/IllegalArgumentException") (by decide)⟩, fun z hz => absurd hz List.not_mem_nil⟩) (by decide) (by decide) (hts (.classLink RL 19 "java/lang/IllegalStateException") (by decide +kernel)) (va_Nw.use rfl (hNW (.castable "java/lang/IllegalStateException" "java/lang/IllegalStateException") (by decide +kernel))) hcell hv9 hcl ?_
    refine lv_astore_n (lv' := [(2, .ref q9), (0, .ref (gA g 0)), (1, .int (zI z))]) hx hb dL_letter_10 rfl hl (by decide) rfl (fun ls hl => ?_)
    refine lv_ldc (v := -99999) hx hb hown (hts (.constant RL 16 (-99999)) (by decide +kernel)) dL_letter_11 ?_
    refine w_widen (k9 := 7) (n9 := 82) (by decide) (by decide) ?_
    rw [hQ]
    refine vx_ret ?_
    exact pc_iret hx hb hrt hP (by rw [← hAd]; exact hD) (by rw [← hAd]; exact hS) (⟨2, 0, S, L, f, g, (if_neg (by decide)).symm, by decide, rfl, rfl, hR, hO, Or.inr (Or.inl ⟨h1.1, h1.2, rfl, rfl⟩)⟩) dL_letter_13 hlocks
  · have hap := kX9_letter l D k L f g S hR hO z.toNat (by omega) h1.2 n0 s.heap.size
    rw [Int.toNat_of_nonneg h1.1.1] at hap
    refine pc_calli (va_runV (As := [.int (zI z)]) (rest := []) ⟨hx, hb, hml, hown, hts⟩ hap (cwV 1 hts gL_letter_X9_letter rfl rfl rfl (by decide +kernel) ⟨Nat.le_of_ble_eq_true rfl, Nat.le_of_ble_eq_true rfl⟩) (pc_preV hC hP hn9 hD hAn hrc) rfl rfl hl.1 rfl (lv_room (Nat.le_of_ble_eq_true rfl)) dL_letter_2 ⟨Nat.le_of_ble_eq_true rfl, Nat.le_of_ble_eq_true rfl⟩) hD hS hA (fun r u H locs hu hP hD hS hz => ?_)
    obtain ⟨rfl, L2, F, g2, rfl, hg9, hc9⟩ := hu
    have hO9 : aOK (addS S 11 z.toNat z.toNat 0 1) := hO.add h1.2 (by decide) (by decide) (fun _ => by omega) (fun h => by omega) (fun a b => by first | exact absurd rfl a | exact absurd rfl b) (fun h => absurd h (by decide)) (fun h => absurd h (by decide))
    refine w_widen (k9 := 7) (n9 := 82) (by decide) (by decide) ?_
    rw [hQ]
    refine vx_ret ?_
    exact pc_iret hx hb hrt hP (by rw [← hAd]; exact hD) (by rw [← hAd]; exact hS) (⟨0, zI (sC S : Int), addS S 11 z.toNat z.toNat 0 1, L2, F, g2, (if_pos rfl).symm, by decide, rfl, hg9, hc9, hO9, Or.inr (Or.inr ⟨h1.1, h1.2, rfl, rfl, rfl⟩)⟩) dL_letter_5 hlocks

set_option maxHeartbeats 4000000 in
set_option maxRecDepth 100000 in
theorem kL_marked (l : Launch) (D : va_G) (k : Nat → ClassId) (L : List Nat) (f : Nat → va_E) (g : CG) (S : SA) (hR : cRep k L f g S) (hO : aOK S) (z : Int) (hz : -2147483648 ≤ z ∧ z < 2147483648) (hlt : l.stackTraces = false) (n0 sz : Nat) : Met l yL_marked wsL_marked ({ frames := 9, cells := 7, slots := 82, locals := 189 } : Room) (va_Pc [.ref (gA g 0), .int (zI z)] (xPre D (tyL k) n0 (va_pl L f) sz)) (va_Qi (wQ k (gA g 0) (-99999) (SpMarked S z)) (pB D (va_pl L f) sz) (va_A (va_pl L f) sz)) 7 82 (va_A (va_pl L f) sz) := by
  refine vx_toMet (XC := (vx_X (fun _ : va_W => False) (fun _ _ _ => True) (va_A (va_pl L f) sz))) (vx_ofWH (cc := cL_marked) (maxL := 3) (ret := some .int) (hh := [(0, 5, 6, 14), (0, 5, 10, 19)]) (by decide) rfl ?_) (fun E st t h => by obtain ⟨u, hu, -⟩ := h; exact hu)
  intro p e s m args below meth c s₁ B hml hv
  obtain ⟨rfl, ⟨hsz, hn9, hP, hC, hD0⟩, hX⟩ := hv
  have hK := hC.1
  have hNW := hC.2.1
  have hx := B.exec
  have hb := B.bytes
  have hrt := B.returns
  have hts := atoms_spec (ws := wsL_marked) B.pre
  have hown : s.vm.findClass RL = some m.cls := findClass_of_methodNamed B.named
  have hlocks := B.notSynchronized
  have htb := vx_table (x := yL_marked) (y := yL_marked) (bytes := cL_marked) (maxL' := 3) (ret' := some .int) (hh := [(0, 5, 6, 14), (0, 5, 10, 19)]) B (hts _ List.mem_cons_self)
  subst hsz
  obtain ⟨A, hAd⟩ : ∃ A, A = va_A (va_pl L f) s.heap.size := ⟨_, rfl⟩
  have hD := hD0.self (sz := s.heap.size)
  rw [← hAd] at hD
  have hA : ∀ q : Nat, s.heap.size ≤ q → A q := fun q h => by rw [hAd]; exact Or.inr h
  have hAn : ∀ q : Nat, A q → n0 ≤ q := fun q h => by
    rw [hAd] at h
    rcases h with ⟨k9, e9, hk9⟩ | h
    · exact hD0.2 k9 _ hk9
    · exact Nat.le_trans hn9 h
  have hS : va_S A s.heap s.heap [] := va_S.rf
  have hl := lv_entry ([.ref (gA g 0), .int (zI z)]) (n := 3) (Nat.le_of_ble_eq_true rfl)
  rw [lg_entry_eq]
  generalize (lg_sl ([.ref (gA g 0), .int (zI z)]) ++ List.replicate (3 - (lg_sl ([.ref (gA g 0), .int (zI z)])).length) Slot.unset).toArray = ls at hl ⊢
  have hl : lv_has ls 3 [(0, .ref (gA g 0)), (1, .int (zI z))] := hl
  obtain ⟨Q, hQ⟩ : ∃ Q, Q = vx_MQ below (va_Qi (wQ k (gA g 0) (-99999) (SpMarked S z)) (pB D (va_pl L f) s.heap.size) (va_A (va_pl L f) s.heap.size)) (vx_X (fun _ : va_W => False) (fun _ _ _ => True) (va_A (va_pl L f) s.heap.size)) ([.ref (gA g 0), .int (zI z)] : List Value).toArray s 7 82 (va_A (va_pl L f) s.heap.size) := ⟨_, rfl⟩
  rw [← hQ]
  have hn0 := hO.1
  have hc0 := hO.2.2.2.1
  refine lv_aload_n hx hb dL_marked_0 rfl (lv_at hl 0 rfl) ?_
  refine lv_iload_n hx hb dL_marked_1 rfl (lv_at hl 1 rfl) ?_
  have hrc : ∃ cell : Cell, s.heap[gA g 0]? = some cell ∧ cell.vm.isStatics = false ∧ s.vm.findClass RX9 = some cell.cls := pl_recv hK hP (hR.2.1 0 (by decide)) hR.1.1 (ci := 8) (q := (RX9, TX9, 3)) rfl
  rcases (show (¬ (0 ≤ z ∧ z < 4)) ∨ ((0 ≤ z ∧ z < 4) ∧ sC S = 30) ∨ ((0 ≤ z ∧ z < 4) ∧ sC S < 30) by omega) with h1 | h1 | h1
  · refine pz_callx (vx_runV (As := [.int (zI z)]) (rest := []) ⟨hx, hb, hml, hown, hts⟩ (kX9_marked_x l D k L f g S hR hO z hz h1 hlt n0 _) (cwV 1 hts gL_marked_X9_marked rfl rfl rfl (by decide +kernel) ⟨Nat.le_of_ble_eq_true rfl, Nat.le_of_ble_eq_true rfl⟩) (xc_preV hC hX hP hn9 hD hS hAn hrc) rfl rfl hl.1 rfl (lv_room (Nat.le_of_ble_eq_true rfl)) dL_marked_2 ⟨Nat.le_of_ble_eq_true rfl, Nat.le_of_ble_eq_true rfl⟩) hD hS hA (fun E ce q9 u H locs hu hP hD hS hcell hv9 hcl => ?_)
    obtain ⟨rfl, rfl⟩ := hu
    refine vx_catch (own := RL) (name := "java/lang/IndexOutOfBoundsException") hown [] ⟨0, 5, 6, 14⟩ [⟨0, 5, 10, 19⟩] htb (fun z hz => absurd hz List.not_mem_nil) (by decide) (by decide) (hts (.classLink RL 14 "java/lang/IndexOutOfBoundsException") (by decide +kernel)) (va_Nw.use rfl (hNW (.castable "java/lang/IndexOutOfBoundsException" "java/lang/IndexOutOfBoundsException") (by decide +kernel))) hcell hv9 hcl ?_
    refine lv_astore_n (lv' := [(2, .ref q9), (0, .ref (gA g 0)), (1, .int (zI z))]) hx hb dL_marked_6 rfl hl (by decide) rfl (fun ls hl => ?_)
    refine lv_ldc (v := -99999) hx hb hown (hts (.constant RL 16 (-99999)) (by decide +kernel)) dL_marked_7 ?_
    refine w_widen (k9 := 7) (n9 := 82) (by decide) (by decide) ?_
    rw [hQ]
    refine vx_ret ?_
    exact pc_iret hx hb hrt hP (by rw [← hAd]; exact hD) (by rw [← hAd]; exact hS) (⟨1, 0, S, L, f, g, (if_neg (by decide)).symm, by decide, rfl, rfl, hR, hO, Or.inl ⟨h1, rfl, rfl⟩⟩) dL_marked_9 hlocks
  · refine pz_callx (vx_runV (As := [.int (zI z)]) (rest := []) ⟨hx, hb, hml, hown, hts⟩ (kX9_marked_x2 l D k L f g S hR hO z h1.1 (Or.inl (by omega)) hlt n0 _) (cwV 1 hts gL_marked_X9_marked rfl rfl rfl (by decide +kernel) ⟨Nat.le_of_ble_eq_true rfl, Nat.le_of_ble_eq_true rfl⟩) (xc_preV hC hX hP hn9 hD hS hAn hrc) rfl rfl hl.1 rfl (lv_room (Nat.le_of_ble_eq_true rfl)) dL_marked_2 ⟨Nat.le_of_ble_eq_true rfl, Nat.le_of_ble_eq_true rfl⟩) hD hS hA (fun E ce q9 u H locs hu hP hD hS hcell hv9 hcl => ?_)
    obtain ⟨rfl, rfl⟩ := hu
    refine vx_catch (own := RL) (name := "java/lang/IllegalStateException") hown [⟨0, 5, 6, 14⟩] ⟨0, 5, 10, 19⟩ [] htb (List.forall_mem_cons.mpr ⟨Or.inr ⟨by decide, _, hts (.classLink RL 14 "java/lang/IndexOutOfBoundsException") (by decide +kernel), hX.2.2.1 ("java/lang/IllegalStateException", "java/lang/IndexOutOfBoundsException") (by decide)⟩, fun z hz => absurd hz List.not_mem_nil⟩) (by decide) (by decide) (hts (.classLink RL 19 "java/lang/IllegalStateException") (by decide +kernel)) (va_Nw.use rfl (hNW (.castable "java/lang/IllegalStateException" "java/lang/IllegalStateException") (by decide +kernel))) hcell hv9 hcl ?_
    refine lv_astore_n (lv' := [(2, .ref q9), (0, .ref (gA g 0)), (1, .int (zI z))]) hx hb dL_marked_10 rfl hl (by decide) rfl (fun ls hl => ?_)
    refine lv_ldc (v := -99999) hx hb hown (hts (.constant RL 16 (-99999)) (by decide +kernel)) dL_marked_11 ?_
    refine w_widen (k9 := 7) (n9 := 82) (by decide) (by decide) ?_
    rw [hQ]
    refine vx_ret ?_
    exact pc_iret hx hb hrt hP (by rw [← hAd]; exact hD) (by rw [← hAd]; exact hS) (⟨2, 0, S, L, f, g, (if_neg (by decide)).symm, by decide, rfl, rfl, hR, hO, Or.inr (Or.inl ⟨h1.1, h1.2, rfl, rfl⟩)⟩) dL_marked_13 hlocks
  · refine pc_calli (va_runV (As := [.int (zI z)]) (rest := []) ⟨hx, hb, hml, hown, hts⟩ (kX9_marked l D k L f g S hR hO z h1.1 h1.2 n0 _) (cwV 1 hts gL_marked_X9_marked rfl rfl rfl (by decide +kernel) ⟨Nat.le_of_ble_eq_true rfl, Nat.le_of_ble_eq_true rfl⟩) (pc_preV hC hP hn9 hD hAn hrc) rfl rfl hl.1 rfl (lv_room (Nat.le_of_ble_eq_true rfl)) dL_marked_2 ⟨Nat.le_of_ble_eq_true rfl, Nat.le_of_ble_eq_true rfl⟩) hD hS hA (fun r u H locs hu hP hD hS hz => ?_)
    obtain ⟨rfl, L2, F, g2, rfl, hg9, hc9⟩ := hu
    have hO9 : aOK (addS S 12 z.toNat z.toNat 0 1) := hO.add h1.2 (by decide) (by decide) (fun _ => by omega) (fun h => by omega) (fun a b => by first | exact absurd rfl a | exact absurd rfl b) (fun h => absurd h (by decide)) (fun h => absurd h (by decide))
    refine w_widen (k9 := 7) (n9 := 82) (by decide) (by decide) ?_
    rw [hQ]
    refine vx_ret ?_
    exact pc_iret hx hb hrt hP (by rw [← hAd]; exact hD) (by rw [← hAd]; exact hS) (⟨0, zI (sC S : Int), addS S 12 z.toNat z.toNat 0 1, L2, F, g2, (if_pos rfl).symm, by decide, rfl, hg9, hc9, hO9, Or.inr (Or.inr ⟨h1.1, h1.2, rfl, rfl, rfl⟩)⟩) dL_marked_5 hlocks
