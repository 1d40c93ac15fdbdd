set_option maxHeartbeats 4000000 in
set_option maxRecDepth 100000 in
theorem kL_pair (l : Launch) (D : va_G) (k : Nat → ClassId) (cL : ClassId) (L : List Nat) (f : Nat → va_E) (g : CG) (S : SA) (hR : cRep k L f g S) (hO : aOK S) (o : Nat) (gl : Nat → Int64) (z : Int) (hz : -2147483648 ≤ z ∧ z < 2147483648) (y : Int) (hy : -2147483648 ≤ y ∧ y < 2147483648) (x : Int) (hx9 : -2147483648 ≤ x ∧ x < 2147483648) (hlt : l.stackTraces = false) (n0 sz : Nat) : vx_Met l yL_pair wsL_pair ({ frames := 9, cells := 7, slots := 82, locals := 189 } : Room) (va_Pc [.ref (gA g 0), .int (zI x), .int (zI z), .int (zI y), .ref o] (xPre D (TYL k cL) n0 (va_pl L f ++ [(o, .inl (cL, 1, .inr (.inl gl)))]) sz)) (va_Qi (wP k cL o (gA g 0) (SpPair S x z y)) (pB D (va_pl L f ++ [(o, .inl (cL, 1, .inr (.inl gl)))]) sz) (va_A (va_pl L f ++ [(o, .inl (cL, 1, .inr (.inl gl)))]) sz)) (vx_X (fun _ : va_W => False) (fun _ _ _ => True) (va_A (va_pl L f ++ [(o, .inl (cL, 1, .inr (.inl gl)))]) sz)) 7 82 (va_A (va_pl L f ++ [(o, .inl (cL, 1, .inr (.inl gl)))]) sz) := by
  refine vx_ofWH (cc := cL_pair) (maxL := 6) (ret := some .int) (hh := [(0, 12, 15, 13), (0, 12, 19, 15), (0, 12, 23, 17)]) (by decide) rfl ?_
  intro p e s m args below meth c s₁ B hml hv
  obtain ⟨rfl, ⟨hsz, hn9, hP, hC, hD0⟩, hX⟩ := hv
  have hK := hC.1
  have hNW := hC.2.1
  have hx := B.exec
  have hb := B.bytes
  have hrt := B.returns
  have hts := atoms_spec (ws := wsL_pair) B.pre
  have hown : s.vm.findClass RL = some m.cls := findClass_of_methodNamed B.named
  have hlocks := B.notSynchronized
  have htb := vx_table (x := yL_pair) (y := yL_pair) (bytes := cL_pair) (maxL' := 6) (ret' := some .int) (hh := [(0, 12, 15, 13), (0, 12, 19, 15), (0, 12, 23, 17)]) B (hts _ List.mem_cons_self)
  subst hsz
  obtain ⟨A, hAd⟩ : ∃ A, A = va_A (va_pl L f ++ [(o, .inl (cL, 1, .inr (.inl gl)))]) s.heap.size := ⟨_, rfl⟩
  have hD := hD0.self (sz := s.heap.size)
  rw [← hAd] at hD
  have hA : ∀ q : Nat, s.heap.size ≤ q → A q := fun q h => by rw [hAd]; exact Or.inr h
  have hAn : ∀ q : Nat, A q → n0 ≤ q := fun q h => by
    rw [hAd] at h
    rcases h with ⟨k9, e9, hk9⟩ | h
    · exact hD0.2 k9 _ hk9
    · exact Nat.le_trans hn9 h
  have hS : va_S A s.heap s.heap [] := va_S.rf
  have hl := lv_entry ([.ref (gA g 0), .int (zI x), .int (zI z), .int (zI y), .ref o]) (n := 6) (Nat.le_of_ble_eq_true rfl)
  rw [lg_entry_eq]
  generalize (lg_sl ([.ref (gA g 0), .int (zI x), .int (zI z), .int (zI y), .ref o]) ++ List.replicate (6 - (lg_sl ([.ref (gA g 0), .int (zI x), .int (zI z), .int (zI y), .ref o])).length) Slot.unset).toArray = ls at hl ⊢
  have hl : lv_has ls 6 [(0, .ref (gA g 0)), (1, .int (zI x)), (2, .int (zI z)), (3, .int (zI y)), (4, .ref o)] := hl
  obtain ⟨Q, hQ⟩ : ∃ Q, Q = vx_MQ below (va_Qi (wP k cL o (gA g 0) (SpPair S x z y)) (pB D (va_pl L f ++ [(o, .inl (cL, 1, .inr (.inl gl)))]) s.heap.size) (va_A (va_pl L f ++ [(o, .inl (cL, 1, .inr (.inl gl)))]) s.heap.size)) (vx_X (fun _ : va_W => False) (fun _ _ _ => True) (va_A (va_pl L f ++ [(o, .inl (cL, 1, .inr (.inl gl)))]) s.heap.size)) ([.ref (gA g 0), .int (zI x), .int (zI z), .int (zI y), .ref o] : List Value).toArray s 7 82 (va_A (va_pl L f ++ [(o, .inl (cL, 1, .inr (.inl gl)))]) s.heap.size) := ⟨_, rfl⟩
  rw [← hQ]
  have hn0 := hO.1
  have hc0 := hO.2.2.2.1
  refine lv_aload hx hb dL_pair_0 (lv_at hl 4 rfl) ?_
  refine zr_const hx hb dL_pair_2 ?_
  refine lv_aload_n hx hb dL_pair_3 rfl (lv_at hl 0 rfl) ?_
  refine lv_iload_n hx hb dL_pair_4 rfl (lv_at hl 1 rfl) ?_
  refine lv_iload_n hx hb dL_pair_5 rfl (lv_at hl 2 rfl) ?_
  refine lv_iload_n hx hb dL_pair_6 rfl (lv_at hl 3 rfl) ?_
  have hrc : ∃ cell : Cell, s.heap[gA g 0]? = some cell ∧ cell.vm.isStatics = false ∧ s.vm.findClass RX9 = some cell.cls := pl_recv hK (vaP_l hP) (hR.2.1 0 (by decide)) hR.1.1 (ci := 8) (q := (RX9, TX9, 3)) rfl
  rcases (show (¬ isN S z) ∨ (isN S z ∧ ¬ isN S y) ∨ (isN S z ∧ isN S y ∧ ¬ (0 ≤ x ∧ x ≤ 9)) ∨ (isN S z ∧ isN S y ∧ (0 ≤ x ∧ x ≤ 9) ∧ (sC S = 30 ∨ 6 < mxD S z y)) ∨ (isN S z ∧ isN S y ∧ (0 ≤ x ∧ x ≤ 9) ∧ sC S < 30 ∧ mxD S z y ≤ 6) by unfold isN; omega) with h1 | h1 | h1 | h1 | h1
  · refine wr_callx (vx_runV (As := [.int (zI x), .int (zI z), .int (zI y)]) (rest := [.int (zI 0), .ref o]) ⟨hx, hb, hml, hown, hts⟩ (kX9_pair_x l D k L f g S hR hO z hz h1 x y hlt n0 _) (cwV 3 hts gL_pair_X9_pair rfl rfl rfl (by decide +kernel) ⟨Nat.le_of_ble_eq_true rfl, Nat.le_of_ble_eq_true rfl⟩) (xc_preV hC.sub4 hX (vaP_l hP) hn9 (vaD_l hD) hS hAn hrc) rfl rfl hl.1 rfl (lv_room (Nat.le_of_ble_eq_true rfl)) dL_pair_7 ⟨Nat.le_of_ble_eq_true rfl, Nat.le_of_ble_eq_true rfl⟩) hP hD hS hA (fun E ce q9 u H locs hu hP hD hS hcell hv9 hcl => ?_)
    obtain ⟨rfl, rfl⟩ := hu
    refine vx_catch (own := RL) (name := "java/lang/IndexOutOfBoundsException") hown [] ⟨0, 12, 15, 13⟩ [⟨0, 12, 19, 15⟩, ⟨0, 12, 23, 17⟩] htb (fun z hz => absurd hz List.not_mem_nil) (by decide) (by decide) (hts (.classLink RL 13 "java/lang/IndexOutOfBoundsException") (by decide +kernel)) (va_Nw.use rfl (hNW (.castable "java/lang/IndexOutOfBoundsException" "java/lang/IndexOutOfBoundsException") (by decide +kernel))) hcell hv9 hcl ?_
    refine lv_astore (lv' := [(5, .ref q9), (0, .ref (gA g 0)), (1, .int (zI x)), (2, .int (zI z)), (3, .int (zI y)), (4, .ref o)]) hx hb dL_pair_15 hl (by decide) rfl (fun ls hl => ?_)
    refine zr_const hx hb dL_pair_17 ?_
    refine w_widen (k9 := 7) (n9 := 82) (by decide) (by decide) ?_
    rw [hQ]
    refine vx_ret ?_
    exact pc_iret hx hb hrt hP (by rw [← hAd]; exact hD) (by rw [← hAd]; exact hS) (⟨1, 0, S, L, f, g, gl, rfl, by decide, rfl, rfl, hR, hO, fun h => absurd h (by decide), Or.inl ⟨fun q => h1 q.1, rfl, rfl⟩⟩) dL_pair_18 hlocks
  · have hap := kX9_pair_x2 l D k L f g S hR hO z.toNat (by have h7 := h1.1.1; have h8 := h1.1.2; omega) y hy h1.2 x hlt n0 s.heap.size
    rw [Int.toNat_of_nonneg h1.1.1] at hap
    refine wr_callx (vx_runV (As := [.int (zI x), .int (zI z), .int (zI y)]) (rest := [.int (zI 0), .ref o]) ⟨hx, hb, hml, hown, hts⟩ hap (cwV 3 hts gL_pair_X9_pair rfl rfl rfl (by decide +kernel) ⟨Nat.le_of_ble_eq_true rfl, Nat.le_of_ble_eq_true rfl⟩) (xc_preV hC.sub4 hX (vaP_l hP) hn9 (vaD_l hD) hS hAn hrc) rfl rfl hl.1 rfl (lv_room (Nat.le_of_ble_eq_true rfl)) dL_pair_7 ⟨Nat.le_of_ble_eq_true rfl, Nat.le_of_ble_eq_true rfl⟩) hP hD hS hA (fun E ce q9 u H locs hu hP hD hS hcell hv9 hcl => ?_)
    obtain ⟨rfl, rfl⟩ := hu
    refine vx_catch (own := RL) (name := "java/lang/IndexOutOfBoundsException") hown [] ⟨0, 12, 15, 13⟩ [⟨0, 12, 19, 15⟩, ⟨0, 12, 23, 17⟩] htb (fun z hz => absurd hz List.not_mem_nil) (by decide) (by decide) (hts (.classLink RL 13 "java/lang/IndexOutOfBoundsException") (by decide +kernel)) (va_Nw.use rfl (hNW (.castable "java/lang/IndexOutOfBoundsException" "java/lang/IndexOutOfBoundsException") (by decide +kernel))) hcell hv9 hcl ?_
    refine lv_astore (lv' := [(5, .ref q9), (0, .ref (gA g 0)), (1, .int (zI x)), (2, .int (zI z)), (3, .int (zI y)), (4, .ref o)]) hx hb dL_pair_15 hl (by decide) rfl (fun ls hl => ?_)
    refine zr_const hx hb dL_pair_17 ?_
    refine w_widen (k9 := 7) (n9 := 82) (by decide) (by decide) ?_
    rw [hQ]
    refine vx_ret ?_
    exact pc_iret hx hb hrt hP (by rw [← hAd]; exact hD) (by rw [← hAd]; exact hS) (⟨1, 0, S, L, f, g, gl, rfl, by decide, rfl, rfl, hR, hO, fun h => absurd h (by decide), Or.inl ⟨fun q => h1.2 q.2, rfl, rfl⟩⟩) dL_pair_18 hlocks
  · have hap := kX9_pair_x3 l D k L f g S hR hO z.toNat (by have h7 := h1.1.1; have h8 := h1.1.2; omega) y.toNat (by have h7 := h1.2.1.1; have h8 := h1.2.1.2; omega) x hx9 h1.2.2 hlt n0 s.heap.size
    rw [Int.toNat_of_nonneg h1.1.1, Int.toNat_of_nonneg h1.2.1.1] at hap
    refine wr_callx (vx_runV (As := [.int (zI x), .int (zI z), .int (zI y)]) (rest := [.int (zI 0), .ref o]) ⟨hx, hb, hml, hown, hts⟩ hap (cwV 3 hts gL_pair_X9_pair rfl rfl rfl (by decide +kernel) ⟨Nat.le_of_ble_eq_true rfl, Nat.le_of_ble_eq_true rfl⟩) (xc_preV hC.sub4 hX (vaP_l hP) hn9 (vaD_l hD) hS hAn hrc) rfl rfl hl.1 rfl (lv_room (Nat.le_of_ble_eq_true rfl)) dL_pair_7 ⟨Nat.le_of_ble_eq_true rfl, Nat.le_of_ble_eq_true rfl⟩) hP hD hS hA (fun E ce q9 u H locs hu hP hD hS hcell hv9 hcl => ?_)
    obtain ⟨rfl, rfl⟩ := hu
    refine vx_catch (own := RL) (name := "java/lang/IllegalArgumentException") hown [⟨0, 12, 15, 13⟩] ⟨0, 12, 19, 15⟩ [⟨0, 12, 23, 17⟩] htb (List.forall_mem_cons.mpr ⟨Or.inr ⟨by decide, _, hts (.classLink RL 13 "java/lang/IndexOutOfBoundsException") (by decide +kernel), hX.2.2.1 ("java/lang/IllegalArgumentException", "java/lang/IndexOutOfBoundsException") (by decide)⟩, fun z hz => absurd hz List.not_mem_nil⟩) (by decide) (by decide) (hts (.classLink RL 15 "java/lang/IllegalArgumentException") (by decide +kernel)) (va_Nw.use rfl (hNW (.castable "java/lang/IllegalArgumentException" "java/lang/IllegalArgumentException") (by decide +kernel))) hcell hv9 hcl ?_
    refine lv_astore (lv' := [(5, .ref q9), (0, .ref (gA g 0)), (1, .int (zI x)), (2, .int (zI z)), (3, .int (zI y)), (4, .ref o)]) hx hb dL_pair_19 hl (by decide) rfl (fun ls hl => ?_)
    refine zr_const hx hb dL_pair_21 ?_
    refine w_widen (k9 := 7) (n9 := 82) (by decide) (by decide) ?_
    rw [hQ]
    refine vx_ret ?_
    exact pc_iret hx hb hrt hP (by rw [← hAd]; exact hD) (by rw [← hAd]; exact hS) (⟨2, 0, S, L, f, g, gl, rfl, by decide, rfl, rfl, hR, hO, fun h => absurd h (by decide), Or.inr (Or.inl ⟨⟨h1.1, h1.2.1⟩, h1.2.2, rfl, rfl⟩)⟩) dL_pair_22 hlocks
  · have hap := kX9_pair_x4 l D k L f g S hR hO x.toNat (by omega) z.toNat (by have h7 := h1.1.1; have h8 := h1.1.2; omega) y.toNat (by have h7 := h1.2.1.1; have h8 := h1.2.1.2; omega) (h1.2.2.2.imp (fun q => by omega) id) hlt n0 s.heap.size
    rw [Int.toNat_of_nonneg h1.2.2.1.1, Int.toNat_of_nonneg h1.1.1, Int.toNat_of_nonneg h1.2.1.1] at hap
    refine wr_callx (vx_runV (As := [.int (zI x), .int (zI z), .int (zI y)]) (rest := [.int (zI 0), .ref o]) ⟨hx, hb, hml, hown, hts⟩ hap (cwV 3 hts gL_pair_X9_pair rfl rfl rfl (by decide +kernel) ⟨Nat.le_of_ble_eq_true rfl, Nat.le_of_ble_eq_true rfl⟩) (xc_preV hC.sub4 hX (vaP_l hP) hn9 (vaD_l hD) hS hAn hrc) rfl rfl hl.1 rfl (lv_room (Nat.le_of_ble_eq_true rfl)) dL_pair_7 ⟨Nat.le_of_ble_eq_true rfl, Nat.le_of_ble_eq_true rfl⟩) hP hD hS hA (fun E ce q9 u H locs hu hP hD hS hcell hv9 hcl => ?_)
    obtain ⟨rfl, rfl⟩ := hu
    refine vx_catch (own := RL) (name := "java/lang/IllegalStateException") hown [⟨0, 12, 15, 13⟩, ⟨0, 12, 19, 15⟩] ⟨0, 12, 23, 17⟩ [] htb (List.forall_mem_cons.mpr ⟨Or.inr ⟨by decide, _, hts (.classLink RL 13 "java/lang/IndexOutOfBoundsException") (by decide +kernel), hX.2.2.1 ("java/lang/IllegalStateException", "java/lang/IndexOutOfBoundsException") (by decide)⟩, List.forall_mem_cons.mpr ⟨Or.inr ⟨by decide, _, hts (.classLink RL 15 "java/lang/IllegalArgumentException") (by decide +kernel), hX.2.2.1 ("java/lang/IllegalStateException", "java/lang/IllegalArgumentException") (by decide)⟩, fun z hz => absurd hz List.not_mem_nil⟩⟩) (by decide) (by decide) (hts (.classLink RL 17 "java/lang/IllegalStateException") (by decide +kernel)) (va_Nw.use rfl (hNW (.castable "java/lang/IllegalStateException" "java/lang/IllegalStateException") (by decide +kernel))) hcell hv9 hcl ?_
    refine lv_astore (lv' := [(5, .ref q9), (0, .ref (gA g 0)), (1, .int (zI x)), (2, .int (zI z)), (3, .int (zI y)), (4, .ref o)]) hx hb dL_pair_23 hl (by decide) rfl (fun ls hl => ?_)
    refine zr_const hx hb dL_pair_25 ?_
    refine w_widen (k9 := 7) (n9 := 82) (by decide) (by decide) ?_
    rw [hQ]
    refine vx_ret ?_
    exact pc_iret hx hb hrt hP (by rw [← hAd]; exact hD) (by rw [← hAd]; exact hS) (⟨3, 0, S, L, f, g, gl, rfl, by decide, rfl, rfl, hR, hO, fun h => absurd h (by decide), Or.inr (Or.inr (Or.inl ⟨⟨h1.1, h1.2.1⟩, h1.2.2.1, h1.2.2.2, rfl, rfl⟩))⟩) dL_pair_26 hlocks
  · have hap := kX9_pair l D k L f g S hR hO x.toNat (by omega) z.toNat (by have h7 := h1.1.1; have h8 := h1.1.2; omega) y.toNat (by have h7 := h1.2.1.1; have h8 := h1.2.1.2; omega) h1.2.2.2.1 h1.2.2.2.2 n0 s.heap.size
    rw [Int.toNat_of_nonneg h1.2.2.1.1, Int.toNat_of_nonneg h1.1.1, Int.toNat_of_nonneg h1.2.1.1] at hap
    refine wr_calli (va_runV (As := [.int (zI x), .int (zI z), .int (zI y)]) (rest := [.int (zI 0), .ref o]) ⟨hx, hb, hml, hown, hts⟩ hap (cwV 3 hts gL_pair_X9_pair rfl rfl rfl (by decide +kernel) ⟨Nat.le_of_ble_eq_true rfl, Nat.le_of_ble_eq_true rfl⟩) (pc_preV hC.sub4 (vaP_l hP) hn9 (vaD_l hD) hAn hrc) rfl rfl hl.1 rfl (lv_room (Nat.le_of_ble_eq_true rfl)) dL_pair_7 ⟨Nat.le_of_ble_eq_true rfl, Nat.le_of_ble_eq_true rfl⟩) hP hD hS hA (fun r u H locs hu hP hD hS hz => ?_)
    obtain ⟨rfl, L2, F, g2, rfl, hg9, hc9⟩ := hu
    have hO9 : aOK (addS S x.toNat z.toNat y.toNat 0 (mxD S z y)) := hO.add h1.2.2.2.1 (by omega) (by have := (hO.2.2.2.2 z.toNat (by have h7 := h1.1.1; have h8 := h1.1.2; omega)).2.1; have h8 := h1.2.2.2.2; unfold mxD at h8 ⊢; omega) (fun h => by omega) (fun h => by omega) (fun _ _ => ⟨(by have h7 := h1.1.1; have h8 := h1.1.2; omega), (by have h7 := h1.2.1.1; have h8 := h1.2.1.2; omega)⟩) (fun h => by omega) (fun h => by omega)
    refine lv_i2l (v := (zI (sC S : Int)).toInt64) hx hb dL_pair_10 rfl ?_
    refine wr_last (X := va_pl L2 F) hx hb hK hP hD hS dL_pair_11 (fun H locs hP hD hS => ?_)
    refine lv_goto (tgt := 27) hx hb dL_pair_12 (by decide) ?_
    refine zr_const hx hb dL_pair_27 ?_
    refine w_widen (k9 := 7) (n9 := 82) (by decide) (by decide) ?_
    rw [hQ]
    refine vx_ret ?_
    exact pc_iret hx hb hrt hP (by rw [← hAd]; exact hD) (by rw [← hAd]; exact hS) (⟨0, zI (sC S : Int), addS S x.toNat z.toNat y.toNat 0 (mxD S z y), L2, F, g2, _, rfl, by decide, rfl, hg9, hc9, hO9, fun _ => rfl, Or.inr (Or.inr (Or.inr ⟨⟨h1.1, h1.2.1⟩, h1.2.2.1, h1.2.2.2.1, h1.2.2.2.2, rfl, rfl, rfl⟩))⟩) dL_pair_28 hlocks

set_option maxHeartbeats 4000000 in
set_option maxRecDepth 100000 in
theorem kL_near (l : Launch) (D : va_G) (k : Nat → ClassId) (cL : ClassId) (L : List Nat) (f : Nat → va_E) (g : CG) (S : SA) (hR : cRep k L f g S) (hO : aOK S) (o : Nat) (gl : Nat → Int64) (z : Int) (hz : -2147483648 ≤ z ∧ z < 2147483648) (y : Int) (hy : -2147483648 ≤ y ∧ y < 2147483648) (x : Int) (hx9 : -2147483648 ≤ x ∧ x < 2147483648) (hlt : l.stackTraces = false) (n0 sz : Nat) : vx_Met l yL_near wsL_near ({ frames := 9, cells := 7, slots := 82, locals := 189 } : Room) (va_Pc [.ref (gA g 0), .int (zI z), .int (zI y), .int (zI x), .ref o] (xPre D (TYL k cL) n0 (va_pl L f ++ [(o, .inl (cL, 1, .inr (.inl gl)))]) sz)) (va_Qi (wP k cL o (gA g 0) (SpNear S z y x)) (pB D (va_pl L f ++ [(o, .inl (cL, 1, .inr (.inl gl)))]) sz) (va_A (va_pl L f ++ [(o, .inl (cL, 1, .inr (.inl gl)))]) sz)) (vx_X (fun _ : va_W => False) (fun _ _ _ => True) (va_A (va_pl L f ++ [(o, .inl (cL, 1, .inr (.inl gl)))]) sz)) 7 82 (va_A (va_pl L f ++ [(o, .inl (cL, 1, .inr (.inl gl)))]) sz) := by
  refine vx_ofWH (cc := cL_near) (maxL := 6) (ret := some .int) (hh := [(0, 12, 15, 13), (0, 12, 19, 15), (0, 12, 23, 17)]) (by decide) rfl ?_
  intro p e s m args below meth c s₁ B hml hv
  obtain ⟨rfl, ⟨hsz, hn9, hP, hC, hD0⟩, hX⟩ := hv
  have hK := hC.1
  have hNW := hC.2.1
  have hx := B.exec
  have hb := B.bytes
  have hrt := B.returns
  have hts := atoms_spec (ws := wsL_near) B.pre
  have hown : s.vm.findClass RL = some m.cls := findClass_of_methodNamed B.named
  have hlocks := B.notSynchronized
  have htb := vx_table (x := yL_near) (y := yL_near) (bytes := cL_near) (maxL' := 6) (ret' := some .int) (hh := [(0, 12, 15, 13), (0, 12, 19, 15), (0, 12, 23, 17)]) B (hts _ List.mem_cons_self)
  subst hsz
  obtain ⟨A, hAd⟩ : ∃ A, A = va_A (va_pl L f ++ [(o, .inl (cL, 1, .inr (.inl gl)))]) s.heap.size := ⟨_, rfl⟩
  have hD := hD0.self (sz := s.heap.size)
  rw [← hAd] at hD
  have hA : ∀ q : Nat, s.heap.size ≤ q → A q := fun q h => by rw [hAd]; exact Or.inr h
  have hAn : ∀ q : Nat, A q → n0 ≤ q := fun q h => by
    rw [hAd] at h
    rcases h with ⟨k9, e9, hk9⟩ | h
    · exact hD0.2 k9 _ hk9
    · exact Nat.le_trans hn9 h
  have hS : va_S A s.heap s.heap [] := va_S.rf
  have hl := lv_entry ([.ref (gA g 0), .int (zI z), .int (zI y), .int (zI x), .ref o]) (n := 6) (Nat.le_of_ble_eq_true rfl)
  rw [lg_entry_eq]
  generalize (lg_sl ([.ref (gA g 0), .int (zI z), .int (zI y), .int (zI x), .ref o]) ++ List.replicate (6 - (lg_sl ([.ref (gA g 0), .int (zI z), .int (zI y), .int (zI x), .ref o])).length) Slot.unset).toArray = ls at hl ⊢
  have hl : lv_has ls 6 [(0, .ref (gA g 0)), (1, .int (zI z)), (2, .int (zI y)), (3, .int (zI x)), (4, .ref o)] := hl
  obtain ⟨Q, hQ⟩ : ∃ Q, Q = vx_MQ below (va_Qi (wP k cL o (gA g 0) (SpNear S z y x)) (pB D (va_pl L f ++ [(o, .inl (cL, 1, .inr (.inl gl)))]) s.heap.size) (va_A (va_pl L f ++ [(o, .inl (cL, 1, .inr (.inl gl)))]) s.heap.size)) (vx_X (fun _ : va_W => False) (fun _ _ _ => True) (va_A (va_pl L f ++ [(o, .inl (cL, 1, .inr (.inl gl)))]) s.heap.size)) ([.ref (gA g 0), .int (zI z), .int (zI y), .int (zI x), .ref o] : List Value).toArray s 7 82 (va_A (va_pl L f ++ [(o, .inl (cL, 1, .inr (.inl gl)))]) s.heap.size) := ⟨_, rfl⟩
  rw [← hQ]
  have hn0 := hO.1
  have hc0 := hO.2.2.2.1
  refine lv_aload hx hb dL_near_0 (lv_at hl 4 rfl) ?_
  refine zr_const hx hb dL_near_2 ?_
  refine lv_aload_n hx hb dL_near_3 rfl (lv_at hl 0 rfl) ?_
  refine lv_iload_n hx hb dL_near_4 rfl (lv_at hl 1 rfl) ?_
  refine lv_iload_n hx hb dL_near_5 rfl (lv_at hl 2 rfl) ?_
  refine lv_iload_n hx hb dL_near_6 rfl (lv_at hl 3 rfl) ?_
  have hrc : ∃ cell : Cell, s.heap[gA g 0]? = some cell ∧ cell.vm.isStatics = false ∧ s.vm.findClass RX9 = some cell.cls := pl_recv hK (vaP_l hP) (hR.2.1 0 (by decide)) hR.1.1 (ci := 8) (q := (RX9, TX9, 3)) rfl
  rcases (show (¬ isN S z) ∨ (isN S z ∧ ¬ isN S y) ∨ (isN S z ∧ isN S y ∧ ¬ (0 ≤ x ∧ x ≤ 24)) ∨ (isN S z ∧ isN S y ∧ (0 ≤ x ∧ x ≤ 24) ∧ (sC S = 30 ∨ 6 < mxD S z y)) ∨ (isN S z ∧ isN S y ∧ (0 ≤ x ∧ x ≤ 24) ∧ sC S < 30 ∧ mxD S z y ≤ 6) by unfold isN; omega) with h1 | h1 | h1 | h1 | h1
  · refine wr_callx (vx_runV (As := [.int (zI z), .int (zI y), .int (zI x)]) (rest := [.int (zI 0), .ref o]) ⟨hx, hb, hml, hown, hts⟩ (kX9_near_x l D k L f g S hR hO z hz h1 x y hlt n0 _) (cwV 3 hts gL_near_X9_near rfl rfl rfl (by decide +kernel) ⟨Nat.le_of_ble_eq_true rfl, Nat.le_of_ble_eq_true rfl⟩) (xc_preV hC.sub4 hX (vaP_l hP) hn9 (vaD_l hD) hS hAn hrc) rfl rfl hl.1 rfl (lv_room (Nat.le_of_ble_eq_true rfl)) dL_near_7 ⟨Nat.le_of_ble_eq_true rfl, Nat.le_of_ble_eq_true rfl⟩) hP hD hS hA (fun E ce q9 u H locs hu hP hD hS hcell hv9 hcl => ?_)
    obtain ⟨rfl, rfl⟩ := hu
    refine vx_catch (own := RL) (name := "java/lang/IndexOutOfBoundsException") hown [] ⟨0, 12, 15, 13⟩ [⟨0, 12, 19, 15⟩, ⟨0, 12, 23, 17⟩] htb (fun z hz => absurd hz List.not_mem_nil) (by decide) (by decide) (hts (.classLink RL 13 "java/lang/IndexOutOfBoundsException") (by decide +kernel)) (va_Nw.use rfl (hNW (.castable "java/lang/IndexOutOfBoundsException" "java/lang/IndexOutOfBoundsException") (by decide +kernel))) hcell hv9 hcl ?_
    refine lv_astore (lv' := [(5, .ref q9), (0, .ref (gA g 0)), (1, .int (zI z)), (2, .int (zI y)), (3, .int (zI x)), (4, .ref o)]) hx hb dL_near_15 hl (by decide) rfl (fun ls hl => ?_)
    refine zr_const hx hb dL_near_17 ?_
    refine w_widen (k9 := 7) (n9 := 82) (by decide) (by decide) ?_
    rw [hQ]
    refine vx_ret ?_
    exact pc_iret hx hb hrt hP (by rw [← hAd]; exact hD) (by rw [← hAd]; exact hS) (⟨1, 0, S, L, f, g, gl, rfl, by decide, rfl, rfl, hR, hO, fun h => absurd h (by decide), Or.inl ⟨fun q => h1 q.1, rfl, rfl⟩⟩) dL_near_18 hlocks
  · have hap := kX9_near_x2 l D k L f g S hR hO z.toNat (by have h7 := h1.1.1; have h8 := h1.1.2; omega) y hy h1.2 x hlt n0 s.heap.size
    rw [Int.toNat_of_nonneg h1.1.1] at hap
    refine wr_callx (vx_runV (As := [.int (zI z), .int (zI y), .int (zI x)]) (rest := [.int (zI 0), .ref o]) ⟨hx, hb, hml, hown, hts⟩ hap (cwV 3 hts gL_near_X9_near rfl rfl rfl (by decide +kernel) ⟨Nat.le_of_ble_eq_true rfl, Nat.le_of_ble_eq_true rfl⟩) (xc_preV hC.sub4 hX (vaP_l hP) hn9 (vaD_l hD) hS hAn hrc) rfl rfl hl.1 rfl (lv_room (Nat.le_of_ble_eq_true rfl)) dL_near_7 ⟨Nat.le_of_ble_eq_true rfl, Nat.le_of_ble_eq_true rfl⟩) hP hD hS hA (fun E ce q9 u H locs hu hP hD hS hcell hv9 hcl => ?_)
    obtain ⟨rfl, rfl⟩ := hu
    refine vx_catch (own := RL) (name := "java/lang/IndexOutOfBoundsException") hown [] ⟨0, 12, 15, 13⟩ [⟨0, 12, 19, 15⟩, ⟨0, 12, 23, 17⟩] htb (fun z hz => absurd hz List.not_mem_nil) (by decide) (by decide) (hts (.classLink RL 13 "java/lang/IndexOutOfBoundsException") (by decide +kernel)) (va_Nw.use rfl (hNW (.castable "java/lang/IndexOutOfBoundsException" "java/lang/IndexOutOfBoundsException") (by decide +kernel))) hcell hv9 hcl ?_
    refine lv_astore (lv' := [(5, .ref q9), (0, .ref (gA g 0)), (1, .int (zI z)), (2, .int (zI y)), (3, .int (zI x)), (4, .ref o)]) hx hb dL_near_15 hl (by decide) rfl (fun ls hl => ?_)
    refine zr_const hx hb dL_near_17 ?_
    refine w_widen (k9 := 7) (n9 := 82) (by decide) (by decide) ?_
    rw [hQ]
    refine vx_ret ?_
    exact pc_iret hx hb hrt hP (by rw [← hAd]; exact hD) (by rw [← hAd]; exact hS) (⟨1, 0, S, L, f, g, gl, rfl, by decide, rfl, rfl, hR, hO, fun h => absurd h (by decide), Or.inl ⟨fun q => h1.2 q.2, rfl, rfl⟩⟩) dL_near_18 hlocks
  · have hap := kX9_near_x3 l D k L f g S hR hO z.toNat (by have h7 := h1.1.1; have h8 := h1.1.2; omega) y.toNat (by have h7 := h1.2.1.1; have h8 := h1.2.1.2; omega) x hx9 h1.2.2 hlt n0 s.heap.size
    rw [Int.toNat_of_nonneg h1.1.1, Int.toNat_of_nonneg h1.2.1.1] at hap
    refine wr_callx (vx_runV (As := [.int (zI z), .int (zI y), .int (zI x)]) (rest := [.int (zI 0), .ref o]) ⟨hx, hb, hml, hown, hts⟩ hap (cwV 3 hts gL_near_X9_near rfl rfl rfl (by decide +kernel) ⟨Nat.le_of_ble_eq_true rfl, Nat.le_of_ble_eq_true rfl⟩) (xc_preV hC.sub4 hX (vaP_l hP) hn9 (vaD_l hD) hS hAn hrc) rfl rfl hl.1 rfl (lv_room (Nat.le_of_ble_eq_true rfl)) dL_near_7 ⟨Nat.le_of_ble_eq_true rfl, Nat.le_of_ble_eq_true rfl⟩) hP hD hS hA (fun E ce q9 u H locs hu hP hD hS hcell hv9 hcl => ?_)
    obtain ⟨rfl, rfl⟩ := hu
    refine vx_catch (own := RL) (name := "java/lang/IllegalArgumentException") hown [⟨0, 12, 15, 13⟩] ⟨0, 12, 19, 15⟩ [⟨0, 12, 23, 17⟩] htb (List.forall_mem_cons.mpr ⟨Or.inr ⟨by decide, _, hts (.classLink RL 13 "java/lang/IndexOutOfBoundsException") (by decide +kernel), hX.2.2.1 ("java/lang/IllegalArgumentException", "java/lang/IndexOutOfBoundsException") (by decide)⟩, fun z hz => absurd hz List.not_mem_nil⟩) (by decide) (by decide) (hts (.classLink RL 15 "java/lang/IllegalArgumentException") (by decide +kernel)) (va_Nw.use rfl (hNW (.castable "java/lang/IllegalArgumentException" "java/lang/IllegalArgumentException") (by decide +kernel))) hcell hv9 hcl ?_
    refine lv_astore (lv' := [(5, .ref q9), (0, .ref (gA g 0)), (1, .int (zI z)), (2, .int (zI y)), (3, .int (zI x)), (4, .ref o)]) hx hb dL_near_19 hl (by decide) rfl (fun ls hl => ?_)
    refine zr_const hx hb dL_near_21 ?_
    refine w_widen (k9 := 7) (n9 := 82) (by decide) (by decide) ?_
    rw [hQ]
    refine vx_ret ?_
    exact pc_iret hx hb hrt hP (by rw [← hAd]; exact hD) (by rw [← hAd]; exact hS) (⟨2, 0, S, L, f, g, gl, rfl, by decide, rfl, rfl, hR, hO, fun h => absurd h (by decide), Or.inr (Or.inl ⟨⟨h1.1, h1.2.1⟩, h1.2.2, rfl, rfl⟩)⟩) dL_near_22 hlocks
  · have hap := kX9_near_x4 l D k L f g S hR hO z.toNat (by have h7 := h1.1.1; have h8 := h1.1.2; omega) y.toNat (by have h7 := h1.2.1.1; have h8 := h1.2.1.2; omega) x h1.2.2.1 (h1.2.2.2.imp (fun q => by omega) id) hlt n0 s.heap.size
    rw [Int.toNat_of_nonneg h1.1.1, Int.toNat_of_nonneg h1.2.1.1] at hap
    refine wr_callx (vx_runV (As := [.int (zI z), .int (zI y), .int (zI x)]) (rest := [.int (zI 0), .ref o]) ⟨hx, hb, hml, hown, hts⟩ hap (cwV 3 hts gL_near_X9_near rfl rfl rfl (by decide +kernel) ⟨Nat.le_of_ble_eq_true rfl, Nat.le_of_ble_eq_true rfl⟩) (xc_preV hC.sub4 hX (vaP_l hP) hn9 (vaD_l hD) hS hAn hrc) rfl rfl hl.1 rfl (lv_room (Nat.le_of_ble_eq_true rfl)) dL_near_7 ⟨Nat.le_of_ble_eq_true rfl, Nat.le_of_ble_eq_true rfl⟩) hP hD hS hA (fun E ce q9 u H locs hu hP hD hS hcell hv9 hcl => ?_)
    obtain ⟨rfl, rfl⟩ := hu
    refine vx_catch (own := RL) (name := "java/lang/IllegalStateException") hown [⟨0, 12, 15, 13⟩, ⟨0, 12, 19, 15⟩] ⟨0, 12, 23, 17⟩ [] htb (List.forall_mem_cons.mpr ⟨Or.inr ⟨by decide, _, hts (.classLink RL 13 "java/lang/IndexOutOfBoundsException") (by decide +kernel), hX.2.2.1 ("java/lang/IllegalStateException", "java/lang/IndexOutOfBoundsException") (by decide)⟩, List.forall_mem_cons.mpr ⟨Or.inr ⟨by decide, _, hts (.classLink RL 15 "java/lang/IllegalArgumentException") (by decide +kernel), hX.2.2.1 ("java/lang/IllegalStateException", "java/lang/IllegalArgumentException") (by decide)⟩, fun z hz => absurd hz List.not_mem_nil⟩⟩) (by decide) (by decide) (hts (.classLink RL 17 "java/lang/IllegalStateException") (by decide +kernel)) (va_Nw.use rfl (hNW (.castable "java/lang/IllegalStateException" "java/lang/IllegalStateException") (by decide +kernel))) hcell hv9 hcl ?_
    refine lv_astore (lv' := [(5, .ref q9), (0, .ref (gA g 0)), (1, .int (zI z)), (2, .int (zI y)), (3, .int (zI x)), (4, .ref o)]) hx hb dL_near_23 hl (by decide) rfl (fun ls hl => ?_)
    refine zr_const hx hb dL_near_25 ?_
    refine w_widen (k9 := 7) (n9 := 82) (by decide) (by decide) ?_
    rw [hQ]
    refine vx_ret ?_
    exact pc_iret hx hb hrt hP (by rw [← hAd]; exact hD) (by rw [← hAd]; exact hS) (⟨3, 0, S, L, f, g, gl, rfl, by decide, rfl, rfl, hR, hO, fun h => absurd h (by decide), Or.inr (Or.inr (Or.inl ⟨⟨h1.1, h1.2.1⟩, h1.2.2.1, h1.2.2.2, rfl, rfl⟩))⟩) dL_near_26 hlocks
  · have hap := kX9_near l D k L f g S hR hO z.toNat (by have h7 := h1.1.1; have h8 := h1.1.2; omega) y.toNat (by have h7 := h1.2.1.1; have h8 := h1.2.1.2; omega) x h1.2.2.1 h1.2.2.2.1 h1.2.2.2.2 n0 s.heap.size
    rw [Int.toNat_of_nonneg h1.1.1, Int.toNat_of_nonneg h1.2.1.1] at hap
    refine wr_calli (va_runV (As := [.int (zI z), .int (zI y), .int (zI x)]) (rest := [.int (zI 0), .ref o]) ⟨hx, hb, hml, hown, hts⟩ hap (cwV 3 hts gL_near_X9_near rfl rfl rfl (by decide +kernel) ⟨Nat.le_of_ble_eq_true rfl, Nat.le_of_ble_eq_true rfl⟩) (pc_preV hC.sub4 (vaP_l hP) hn9 (vaD_l hD) hAn hrc) rfl rfl hl.1 rfl (lv_room (Nat.le_of_ble_eq_true rfl)) dL_near_7 ⟨Nat.le_of_ble_eq_true rfl, Nat.le_of_ble_eq_true rfl⟩) hP hD hS hA (fun r u H locs hu hP hD hS hz => ?_)
    obtain ⟨rfl, L2, F, g2, rfl, hg9, hc9⟩ := hu
    have hO9 : aOK (addS S 10 z.toNat y.toNat x (mxD S z y)) := hO.add h1.2.2.2.1 (by omega) (by have := (hO.2.2.2.2 z.toNat (by have h7 := h1.1.1; have h8 := h1.1.2; omega)).2.1; have h8 := h1.2.2.2.2; unfold mxD at h8 ⊢; omega) (fun h => by omega) (fun h => by omega) (fun _ _ => ⟨(by have h7 := h1.1.1; have h8 := h1.1.2; omega), (by have h7 := h1.2.1.1; have h8 := h1.2.1.2; omega)⟩) (fun _ => h1.2.2.1) (fun h => by omega)
    refine lv_i2l (v := (zI (sC S : Int)).toInt64) hx hb dL_near_10 rfl ?_
    refine wr_last (X := va_pl L2 F) hx hb hK hP hD hS dL_near_11 (fun H locs hP hD hS => ?_)
    refine lv_goto (tgt := 27) hx hb dL_near_12 (by decide) ?_
    refine zr_const hx hb dL_near_27 ?_
    refine w_widen (k9 := 7) (n9 := 82) (by decide) (by decide) ?_
    rw [hQ]
    refine vx_ret ?_
    exact pc_iret hx hb hrt hP (by rw [← hAd]; exact hD) (by rw [← hAd]; exact hS) (⟨0, zI (sC S : Int), addS S 10 z.toNat y.toNat x (mxD S z y), L2, F, g2, _, rfl, by decide, rfl, hg9, hc9, hO9, fun _ => rfl, Or.inr (Or.inr (Or.inr ⟨⟨h1.1, h1.2.1⟩, h1.2.2.1, h1.2.2.2.1, h1.2.2.2.2, rfl, rfl, rfl⟩))⟩) dL_near_28 hlocks

set_option maxHeartbeats 4000000 in
set_option maxRecDepth 100000 in
theorem kL_only (l : Launch) (D : va_G) (k : Nat → ClassId) (cL : ClassId) (L : List Nat) (f : Nat → va_E) (g : CG) (S : SA) (hR : cRep k L f g S) (hO : aOK S) (o : Nat) (gl : Nat → Int64) (z : Int) (hz : -2147483648 ≤ z ∧ z < 2147483648) (b9 : Bool) (hlt : l.stackTraces = false) (n0 sz : Nat) : vx_Met l yL_only wsL_only ({ frames := 9, cells := 7, slots := 82, locals := 189 } : Room) (va_Pc [.ref (gA g 0), .int (zI z), .int (bI b9), .ref o] (xPre D (TYL k cL) n0 (va_pl L f ++ [(o, .inl (cL, 1, .inr (.inl gl)))]) sz)) (va_Qi (wP k cL o (gA g 0) (SpOnly S z b9)) (pB D (va_pl L f ++ [(o, .inl (cL, 1, .inr (.inl gl)))]) sz) (va_A (va_pl L f ++ [(o, .inl (cL, 1, .inr (.inl gl)))]) sz)) (vx_X (fun _ : va_W => False) (fun _ _ _ => True) (va_A (va_pl L f ++ [(o, .inl (cL, 1, .inr (.inl gl)))]) sz)) 7 82 (va_A (va_pl L f ++ [(o, .inl (cL, 1, .inr (.inl gl)))]) sz) := by
  refine vx_ofWH (cc := cL_only) (maxL := 5) (ret := some .int) (hh := [(0, 10, 13, 13), (0, 10, 17, 17)]) (by decide) rfl ?_
  intro p e s m args below meth c s₁ B hml hv
  obtain ⟨rfl, ⟨hsz, hn9, hP, hC, hD0⟩, hX⟩ := hv
  have hK := hC.1
  have hNW := hC.2.1
  have hx := B.exec
  have hb := B.bytes
  have hrt := B.returns
  have hts := atoms_spec (ws := wsL_only) B.pre
  have hown : s.vm.findClass RL = some m.cls := findClass_of_methodNamed B.named
  have hlocks := B.notSynchronized
  have htb := vx_table (x := yL_only) (y := yL_only) (bytes := cL_only) (maxL' := 5) (ret' := some .int) (hh := [(0, 10, 13, 13), (0, 10, 17, 17)]) B (hts _ List.mem_cons_self)
  subst hsz
  obtain ⟨A, hAd⟩ : ∃ A, A = va_A (va_pl L f ++ [(o, .inl (cL, 1, .inr (.inl gl)))]) s.heap.size := ⟨_, rfl⟩
  have hD := hD0.self (sz := s.heap.size)
  rw [← hAd] at hD
  have hA : ∀ q : Nat, s.heap.size ≤ q → A q := fun q h => by rw [hAd]; exact Or.inr h
  have hAn : ∀ q : Nat, A q → n0 ≤ q := fun q h => by
    rw [hAd] at h
    rcases h with ⟨k9, e9, hk9⟩ | h
    · exact hD0.2 k9 _ hk9
    · exact Nat.le_trans hn9 h
  have hS : va_S A s.heap s.heap [] := va_S.rf
  have hl := lv_entry ([.ref (gA g 0), .int (zI z), .int (bI b9), .ref o]) (n := 5) (Nat.le_of_ble_eq_true rfl)
  rw [lg_entry_eq]
  generalize (lg_sl ([.ref (gA g 0), .int (zI z), .int (bI b9), .ref o]) ++ List.replicate (5 - (lg_sl ([.ref (gA g 0), .int (zI z), .int (bI b9), .ref o])).length) Slot.unset).toArray = ls at hl ⊢
  have hl : lv_has ls 5 [(0, .ref (gA g 0)), (1, .int (zI z)), (2, .int (bI b9)), (3, .ref o)] := hl
  obtain ⟨Q, hQ⟩ : ∃ Q, Q = vx_MQ below (va_Qi (wP k cL o (gA g 0) (SpOnly S z b9)) (pB D (va_pl L f ++ [(o, .inl (cL, 1, .inr (.inl gl)))]) s.heap.size) (va_A (va_pl L f ++ [(o, .inl (cL, 1, .inr (.inl gl)))]) s.heap.size)) (vx_X (fun _ : va_W => False) (fun _ _ _ => True) (va_A (va_pl L f ++ [(o, .inl (cL, 1, .inr (.inl gl)))]) s.heap.size)) ([.ref (gA g 0), .int (zI z), .int (bI b9), .ref o] : List Value).toArray s 7 82 (va_A (va_pl L f ++ [(o, .inl (cL, 1, .inr (.inl gl)))]) s.heap.size) := ⟨_, rfl⟩
  rw [← hQ]
  have hn0 := hO.1
  have hc0 := hO.2.2.2.1
  refine lv_aload_n hx hb dL_only_0 rfl (lv_at hl 3 rfl) ?_
  refine zr_const hx hb dL_only_1 ?_
  refine lv_aload_n hx hb dL_only_2 rfl (lv_at hl 0 rfl) ?_
  refine lv_iload_n hx hb dL_only_3 rfl (lv_at hl 1 rfl) ?_
  refine lv_iload_n hx hb dL_only_4 rfl (lv_at hl 2 rfl) ?_
  have hrc : ∃ cell : Cell, s.heap[gA g 0]? = some cell ∧ cell.vm.isStatics = false ∧ s.vm.findClass RX9 = some cell.cls := pl_recv hK (vaP_l hP) (hR.2.1 0 (by decide)) hR.1.1 (ci := 8) (q := (RX9, TX9, 3)) rfl
  rcases (show (¬ isN S z) ∨ (isN S z ∧ (sC S = 30 ∨ 6 < mxD S z z)) ∨ (isN S z ∧ sC S < 30 ∧ mxD S z z ≤ 6) by unfold isN; omega) with h1 | h1 | h1
  · refine wr_callx (vx_runV (As := [.int (zI z), .int (bI b9)]) (rest := [.int (zI 0), .ref o]) ⟨hx, hb, hml, hown, hts⟩ (kX9_only_x l D k L f g S hR hO z hz h1 b9 hlt n0 _) (cwV 2 hts gL_only_X9_only rfl rfl rfl (by decide +kernel) ⟨Nat.le_of_ble_eq_true rfl, Nat.le_of_ble_eq_true rfl⟩) (xc_preV hC.sub4 hX (vaP_l hP) hn9 (vaD_l hD) hS hAn hrc) rfl rfl hl.1 rfl (lv_room (Nat.le_of_ble_eq_true rfl)) dL_only_5 ⟨Nat.le_of_ble_eq_true rfl, Nat.le_of_ble_eq_true rfl⟩) hP hD hS hA (fun E ce q9 u H locs hu hP hD hS hcell hv9 hcl => ?_)
    obtain ⟨rfl, rfl⟩ := hu
    refine vx_catch (own := RL) (name := "java/lang/IndexOutOfBoundsException") hown [] ⟨0, 10, 13, 13⟩ [⟨0, 10, 17, 17⟩] htb (fun z hz => absurd hz List.not_mem_nil) (by decide) (by decide) (hts (.classLink RL 13 "java/lang/IndexOutOfBoundsException") (by decide +kernel)) (va_Nw.use rfl (hNW (.castable "java/lang/IndexOutOfBoundsException" "java/lang/IndexOutOfBoundsException") (by decide +kernel))) hcell hv9 hcl ?_
    refine lv_astore (lv' := [(4, .ref q9), (0, .ref (gA g 0)), (1, .int (zI z)), (2, .int (bI b9)), (3, .ref o)]) hx hb dL_only_13 hl (by decide) rfl (fun ls hl => ?_)
    refine zr_const hx hb dL_only_15 ?_
    refine w_widen (k9 := 7) (n9 := 82) (by decide) (by decide) ?_
    rw [hQ]
    refine vx_ret ?_
    exact pc_iret hx hb hrt hP (by rw [← hAd]; exact hD) (by rw [← hAd]; exact hS) (⟨1, 0, S, L, f, g, gl, rfl, by decide, rfl, rfl, hR, hO, fun h => absurd h (by decide), Or.inl ⟨h1, rfl, rfl⟩⟩) dL_only_16 hlocks
  · have hap := kX9_only_x2 l D k L f g S hR hO z.toNat (by have h7 := h1.1.1; have h8 := h1.1.2; omega) b9 (h1.2.imp (fun q => by omega) id) hlt n0 s.heap.size
    rw [Int.toNat_of_nonneg h1.1.1] at hap
    refine wr_callx (vx_runV (As := [.int (zI z), .int (bI b9)]) (rest := [.int (zI 0), .ref o]) ⟨hx, hb, hml, hown, hts⟩ hap (cwV 2 hts gL_only_X9_only rfl rfl rfl (by decide +kernel) ⟨Nat.le_of_ble_eq_true rfl, Nat.le_of_ble_eq_true rfl⟩) (xc_preV hC.sub4 hX (vaP_l hP) hn9 (vaD_l hD) hS hAn hrc) rfl rfl hl.1 rfl (lv_room (Nat.le_of_ble_eq_true rfl)) dL_only_5 ⟨Nat.le_of_ble_eq_true rfl, Nat.le_of_ble_eq_true rfl⟩) hP hD hS hA (fun E ce q9 u H locs hu hP hD hS hcell hv9 hcl => ?_)
    obtain ⟨rfl, rfl⟩ := hu
    refine vx_catch (own := RL) (name := "java/lang/IllegalStateException") hown [⟨0, 10, 13, 13⟩] ⟨0, 10, 17, 17⟩ [] htb (List.forall_mem_cons.mpr ⟨Or.inr ⟨by decide, _, hts (.classLink RL 13 "java/lang/IndexOutOfBoundsException") (by decide +kernel), hX.2.2.1 ("java/lang/IllegalStateException", "java/lang/IndexOutOfBoundsException") (by decide)⟩, fun z hz => absurd hz List.not_mem_nil⟩) (by decide) (by decide) (hts (.classLink RL 17 "java/lang/IllegalStateException") (by decide +kernel)) (va_Nw.use rfl (hNW (.castable "java/lang/IllegalStateException" "java/lang/IllegalStateException") (by decide +kernel))) hcell hv9 hcl ?_
    refine lv_astore (lv' := [(4, .ref q9), (0, .ref (gA g 0)), (1, .int (zI z)), (2, .int (bI b9)), (3, .ref o)]) hx hb dL_only_17 hl (by decide) rfl (fun ls hl => ?_)
    refine zr_const hx hb dL_only_19 ?_
    refine w_widen (k9 := 7) (n9 := 82) (by decide) (by decide) ?_
    rw [hQ]
    refine vx_ret ?_
    exact pc_iret hx hb hrt hP (by rw [← hAd]; exact hD) (by rw [← hAd]; exact hS) (⟨2, 0, S, L, f, g, gl, rfl, by decide, rfl, rfl, hR, hO, fun h => absurd h (by decide), Or.inr (Or.inl ⟨h1.1, h1.2, rfl, rfl⟩)⟩) dL_only_20 hlocks
  · have hap := kX9_only l D k L f g S hR hO z.toNat (by have h7 := h1.1.1; have h8 := h1.1.2; omega) b9 h1.2.1 h1.2.2 n0 s.heap.size
    rw [Int.toNat_of_nonneg h1.1.1] at hap
    refine wr_calli (va_runV (As := [.int (zI z), .int (bI b9)]) (rest := [.int (zI 0), .ref o]) ⟨hx, hb, hml, hown, hts⟩ hap (cwV 2 hts gL_only_X9_only rfl rfl rfl (by decide +kernel) ⟨Nat.le_of_ble_eq_true rfl, Nat.le_of_ble_eq_true rfl⟩) (pc_preV hC.sub4 (vaP_l hP) hn9 (vaD_l hD) hAn hrc) rfl rfl hl.1 rfl (lv_room (Nat.le_of_ble_eq_true rfl)) dL_only_5 ⟨Nat.le_of_ble_eq_true rfl, Nat.le_of_ble_eq_true rfl⟩) hP hD hS hA (fun r u H locs hu hP hD hS hz => ?_)
    obtain ⟨rfl, L2, F, g2, rfl, hg9, hc9⟩ := hu
    have hO9 : aOK (addS S (if b9 then 14 else 13) z.toNat z.toNat 0 (mxD S z z)) := hO.add h1.2.1 (by cases b9 <;> decide) (by have := (hO.2.2.2.2 z.toNat (by have h7 := h1.1.1; have h8 := h1.1.2; omega)).2.1; have h8 := h1.2.2; unfold mxD at h8 ⊢; omega) (fun h => by cases b9 <;> exact absurd h (by decide)) (fun h => by cases b9 <;> exact absurd h (by decide)) (fun _ _ => ⟨(by have h7 := h1.1.1; have h8 := h1.1.2; omega), (by have h7 := h1.1.1; have h8 := h1.1.2; omega)⟩) (fun h => by cases b9 <;> exact absurd h (by decide)) (fun _ => rfl)
    refine lv_i2l (v := (zI (sC S : Int)).toInt64) hx hb dL_only_8 rfl ?_
    refine wr_last (X := va_pl L2 F) hx hb hK hP hD hS dL_only_9 (fun H locs hP hD hS => ?_)
    refine lv_goto (tgt := 21) hx hb dL_only_10 (by decide) ?_
    refine zr_const hx hb dL_only_21 ?_
    refine w_widen (k9 := 7) (n9 := 82) (by decide) (by decide) ?_
    rw [hQ]
    refine vx_ret ?_
    exact pc_iret hx hb hrt hP (by rw [← hAd]; exact hD) (by rw [← hAd]; exact hS) (⟨0, zI (sC S : Int), addS S (if b9 then 14 else 13) z.toNat z.toNat 0 (mxD S z z), L2, F, g2, _, rfl, by decide, rfl, hg9, hc9, hO9, fun _ => rfl, Or.inr (Or.inr ⟨h1.1, h1.2.1, h1.2.2, rfl, rfl, rfl⟩)⟩) dL_only_22 hlocks

set_option maxHeartbeats 4000000 in
set_option maxRecDepth 100000 in
theorem kL_regions (l : Launch) (D : va_G) (k : Nat → ClassId) (cL : ClassId) (L : List Nat) (f : Nat → va_E) (g : CG) (S : SA) (hR : cRep k L f g S) (hO : aOK S) (o : Nat) (gl : Nat → Int64) (z : Int) (hz : -2147483648 ≤ z ∧ z < 2147483648) (hlt : l.stackTraces = false) (n0 sz : Nat) : vx_Met l yL_regions wsL_regions ({ frames := 9, cells := 7, slots := 82, locals := 189 } : Room) (va_Pc [.ref (gA g 0), .int (zI z), .ref o] (xPre D (TYL k cL) n0 (va_pl L f ++ [(o, .inl (cL, 1, .inr (.inl gl)))]) sz)) (va_Qi (wP k cL o (gA g 0) (SpQ S z vSize)) (pB D (va_pl L f ++ [(o, .inl (cL, 1, .inr (.inl gl)))]) sz) (va_A (va_pl L f ++ [(o, .inl (cL, 1, .inr (.inl gl)))]) sz)) (vx_X (fun _ : va_W => False) (fun _ _ _ => True) (va_A (va_pl L f ++ [(o, .inl (cL, 1, .inr (.inl gl)))]) sz)) 7 82 (va_A (va_pl L f ++ [(o, .inl (cL, 1, .inr (.inl gl)))]) sz) := by
  refine vx_ofWH (cc := cL_regions) (maxL := 4) (ret := some .int) (hh := [(0, 9, 12, 13)]) (by decide) rfl ?_
  intro p e s m args below meth c s₁ B hml hv
  obtain ⟨rfl, ⟨hsz, hn9, hP, hC, hD0⟩, hX⟩ := hv
  have hK := hC.1
  have hNW := hC.2.1
  have hx := B.exec
  have hb := B.bytes
  have hrt := B.returns
  have hts := atoms_spec (ws := wsL_regions) B.pre
  have hown : s.vm.findClass RL = some m.cls := findClass_of_methodNamed B.named
  have hlocks := B.notSynchronized
  have htb := vx_table (x := yL_regions) (y := yL_regions) (bytes := cL_regions) (maxL' := 4) (ret' := some .int) (hh := [(0, 9, 12, 13)]) B (hts _ List.mem_cons_self)
  subst hsz
  obtain ⟨A, hAd⟩ : ∃ A, A = va_A (va_pl L f ++ [(o, .inl (cL, 1, .inr (.inl gl)))]) s.heap.size := ⟨_, rfl⟩
  have hD := hD0.self (sz := s.heap.size)
  rw [← hAd] at hD
  have hA : ∀ q : Nat, s.heap.size ≤ q → A q := fun q h => by rw [hAd]; exact Or.inr h
  have hAn : ∀ q : Nat, A q → n0 ≤ q := fun q h => by
    rw [hAd] at h
    rcases h with ⟨k9, e9, hk9⟩ | h
    · exact hD0.2 k9 _ hk9
    · exact Nat.le_trans hn9 h
  have hS : va_S A s.heap s.heap [] := va_S.rf
  have hl := lv_entry ([.ref (gA g 0), .int (zI z), .ref o]) (n := 4) (Nat.le_of_ble_eq_true rfl)
  rw [lg_entry_eq]
  generalize (lg_sl ([.ref (gA g 0), .int (zI z), .ref o]) ++ List.replicate (4 - (lg_sl ([.ref (gA g 0), .int (zI z), .ref o])).length) Slot.unset).toArray = ls at hl ⊢
  have hl : lv_has ls 4 [(0, .ref (gA g 0)), (1, .int (zI z)), (2, .ref o)] := hl
  obtain ⟨Q, hQ⟩ : ∃ Q, Q = vx_MQ below (va_Qi (wP k cL o (gA g 0) (SpQ S z vSize)) (pB D (va_pl L f ++ [(o, .inl (cL, 1, .inr (.inl gl)))]) s.heap.size) (va_A (va_pl L f ++ [(o, .inl (cL, 1, .inr (.inl gl)))]) s.heap.size)) (vx_X (fun _ : va_W => False) (fun _ _ _ => True) (va_A (va_pl L f ++ [(o, .inl (cL, 1, .inr (.inl gl)))]) s.heap.size)) ([.ref (gA g 0), .int (zI z), .ref o] : List Value).toArray s 7 82 (va_A (va_pl L f ++ [(o, .inl (cL, 1, .inr (.inl gl)))]) s.heap.size) := ⟨_, rfl⟩
  rw [← hQ]
  have hn0 := hO.1
  have hc0 := hO.2.2.2.1
  refine lv_aload_n hx hb dL_regions_0 rfl (lv_at hl 2 rfl) ?_
  refine zr_const hx hb dL_regions_1 ?_
  refine lv_aload_n hx hb dL_regions_2 rfl (lv_at hl 0 rfl) ?_
  refine lv_iload_n hx hb dL_regions_3 rfl (lv_at hl 1 rfl) ?_
  have hrc : ∃ cell : Cell, s.heap[gA g 0]? = some cell ∧ cell.vm.isStatics = false ∧ s.vm.findClass RX9 = some cell.cls := pl_recv hK (vaP_l hP) (hR.2.1 0 (by decide)) hR.1.1 (ci := 8) (q := (RX9, TX9, 3)) rfl
  rcases (show (¬ isN S z) ∨ isN S z by unfold isN; omega) with h1 | h1
  · refine wr_callx (vx_runV (As := [.int (zI z)]) (rest := [.int (zI 0), .ref o]) ⟨hx, hb, hml, hown, hts⟩ (kX9_regions_x l D k L f g S hR hO z hz h1 hlt n0 _) (cwV 1 hts gL_regions_X9_regions rfl rfl rfl (by decide +kernel) ⟨Nat.le_of_ble_eq_true rfl, Nat.le_of_ble_eq_true rfl⟩) (xc_preV hC.sub4 hX (vaP_l hP) hn9 (vaD_l hD) hS hAn hrc) rfl rfl hl.1 rfl (lv_room (Nat.le_of_ble_eq_true rfl)) dL_regions_4 ⟨Nat.le_of_ble_eq_true rfl, Nat.le_of_ble_eq_true rfl⟩) hP hD hS hA (fun E ce q9 u H locs hu hP hD hS hcell hv9 hcl => ?_)
    obtain ⟨rfl, rfl⟩ := hu
    refine vx_catch (own := RL) (name := "java/lang/IndexOutOfBoundsException") hown [] ⟨0, 9, 12, 13⟩ [] htb (fun z hz => absurd hz List.not_mem_nil) (by decide) (by decide) (hts (.classLink RL 13 "java/lang/IndexOutOfBoundsException") (by decide +kernel)) (va_Nw.use rfl (hNW (.castable "java/lang/IndexOutOfBoundsException" "java/lang/IndexOutOfBoundsException") (by decide +kernel))) hcell hv9 hcl ?_
    refine lv_astore_n (lv' := [(3, .ref q9), (0, .ref (gA g 0)), (1, .int (zI z)), (2, .ref o)]) hx hb dL_regions_12 rfl hl (by decide) rfl (fun ls hl => ?_)
    refine zr_const hx hb dL_regions_13 ?_
    refine w_widen (k9 := 7) (n9 := 82) (by decide) (by decide) ?_
    rw [hQ]
    refine vx_ret ?_
    exact pc_iret hx hb hrt hP (by rw [← hAd]; exact hD) (by rw [← hAd]; exact hS) (⟨1, 0, S, L, f, g, gl, rfl, by decide, rfl, rfl, hR, hO, fun h => absurd h (by decide), Or.inl ⟨h1, rfl, rfl⟩⟩) dL_regions_14 hlocks
  · have hap := kX9_regions l D k L f g S hR hO z.toNat (by have h7 := h1.1; have h8 := h1.2; omega) n0 s.heap.size
    rw [Int.toNat_of_nonneg h1.1] at hap
    refine wr_calli (va_runV (As := [.int (zI z)]) (rest := [.int (zI 0), .ref o]) ⟨hx, hb, hml, hown, hts⟩ hap (cwV 1 hts gL_regions_X9_regions rfl rfl rfl (by decide +kernel) ⟨Nat.le_of_ble_eq_true rfl, Nat.le_of_ble_eq_true rfl⟩) (pc_preV hC.sub4 (vaP_l hP) hn9 (vaD_l hD) hAn hrc) rfl rfl hl.1 rfl (lv_room (Nat.le_of_ble_eq_true rfl)) dL_regions_4 ⟨Nat.le_of_ble_eq_true rfl, Nat.le_of_ble_eq_true rfl⟩) hP hD hS hA (fun r u H locs hu hP hD hS hz => ?_)
    obtain ⟨rfl, F, rfl, hc9⟩ := hu
    refine lv_i2l (v := (vSize (gatN S (gD g z.toNat) (gR g 2) 30 z.toNat)).toInt64) hx hb dL_regions_7 rfl ?_
    refine wr_last (X := va_pl L F) hx hb hK hP hD hS dL_regions_8 (fun H locs hP hD hS => ?_)
    refine lv_goto (tgt := 15) hx hb dL_regions_9 (by decide) ?_
    refine zr_const hx hb dL_regions_15 ?_
    refine w_widen (k9 := 7) (n9 := 82) (by decide) (by decide) ?_
    rw [hQ]
    refine vx_ret ?_
    exact pc_iret hx hb hrt hP (by rw [← hAd]; exact hD) (by rw [← hAd]; exact hS) (⟨0, vSize (gatN S (gD g z.toNat) (gR g 2) 30 z.toNat), S, L, F, (setRw g 2 (gatN S (gD g z.toNat) (gR g 2) 30)), _, rfl, by decide, rfl, rfl, hc9, hO, fun _ => rfl, Or.inr ⟨h1, rfl, rfl, (gatN S (gD g z.toNat) (gR g 2) 30 z.toNat), gat_rows hR hO (by have h7 := h1.1; have h8 := h1.2; omega), rfl⟩⟩) dL_regions_16 hlocks

set_option maxHeartbeats 4000000 in
set_option maxRecDepth 100000 in
theorem kL_covered (l : Launch) (D : va_G) (k : Nat → ClassId) (cL : ClassId) (L : List Nat) (f : Nat → va_E) (g : CG) (S : SA) (hR : cRep k L f g S) (hO : aOK S) (o : Nat) (gl : Nat → Int64) (z : Int) (hz : -2147483648 ≤ z ∧ z < 2147483648) (hlt : l.stackTraces = false) (n0 sz : Nat) : vx_Met l yL_covered wsL_covered ({ frames := 9, cells := 7, slots := 82, locals := 189 } : Room) (va_Pc [.ref (gA g 0), .int (zI z), .ref o] (xPre D (TYL k cL) n0 (va_pl L f ++ [(o, .inl (cL, 1, .inr (.inl gl)))]) sz)) (va_Qi (wP k cL o (gA g 0) (SpQ S z vCov)) (pB D (va_pl L f ++ [(o, .inl (cL, 1, .inr (.inl gl)))]) sz) (va_A (va_pl L f ++ [(o, .inl (cL, 1, .inr (.inl gl)))]) sz)) (vx_X (fun _ : va_W => False) (fun _ _ _ => True) (va_A (va_pl L f ++ [(o, .inl (cL, 1, .inr (.inl gl)))]) sz)) 7 82 (va_A (va_pl L f ++ [(o, .inl (cL, 1, .inr (.inl gl)))]) sz) := by
  refine vx_ofWH (cc := cL_covered) (maxL := 4) (ret := some .int) (hh := [(0, 9, 12, 13)]) (by decide) rfl ?_
  intro p e s m args below meth c s₁ B hml hv
  obtain ⟨rfl, ⟨hsz, hn9, hP, hC, hD0⟩, hX⟩ := hv
  have hK := hC.1
  have hNW := hC.2.1
  have hx := B.exec
  have hb := B.bytes
  have hrt := B.returns
  have hts := atoms_spec (ws := wsL_covered) B.pre
  have hown : s.vm.findClass RL = some m.cls := findClass_of_methodNamed B.named
  have hlocks := B.notSynchronized
  have htb := vx_table (x := yL_covered) (y := yL_covered) (bytes := cL_covered) (maxL' := 4) (ret' := some .int) (hh := [(0, 9, 12, 13)]) B (hts _ List.mem_cons_self)
  subst hsz
  obtain ⟨A, hAd⟩ : ∃ A, A = va_A (va_pl L f ++ [(o, .inl (cL, 1, .inr (.inl gl)))]) s.heap.size := ⟨_, rfl⟩
  have hD := hD0.self (sz := s.heap.size)
  rw [← hAd] at hD
  have hA : ∀ q : Nat, s.heap.size ≤ q → A q := fun q h => by rw [hAd]; exact Or.inr h
  have hAn : ∀ q : Nat, A q → n0 ≤ q := fun q h => by
    rw [hAd] at h
    rcases h with ⟨k9, e9, hk9⟩ | h
    · exact hD0.2 k9 _ hk9
    · exact Nat.le_trans hn9 h
  have hS : va_S A s.heap s.heap [] := va_S.rf
  have hl := lv_entry ([.ref (gA g 0), .int (zI z), .ref o]) (n := 4) (Nat.le_of_ble_eq_true rfl)
  rw [lg_entry_eq]
  generalize (lg_sl ([.ref (gA g 0), .int (zI z), .ref o]) ++ List.replicate (4 - (lg_sl ([.ref (gA g 0), .int (zI z), .ref o])).length) Slot.unset).toArray = ls at hl ⊢
  have hl : lv_has ls 4 [(0, .ref (gA g 0)), (1, .int (zI z)), (2, .ref o)] := hl
  obtain ⟨Q, hQ⟩ : ∃ Q, Q = vx_MQ below (va_Qi (wP k cL o (gA g 0) (SpQ S z vCov)) (pB D (va_pl L f ++ [(o, .inl (cL, 1, .inr (.inl gl)))]) s.heap.size) (va_A (va_pl L f ++ [(o, .inl (cL, 1, .inr (.inl gl)))]) s.heap.size)) (vx_X (fun _ : va_W => False) (fun _ _ _ => True) (va_A (va_pl L f ++ [(o, .inl (cL, 1, .inr (.inl gl)))]) s.heap.size)) ([.ref (gA g 0), .int (zI z), .ref o] : List Value).toArray s 7 82 (va_A (va_pl L f ++ [(o, .inl (cL, 1, .inr (.inl gl)))]) s.heap.size) := ⟨_, rfl⟩
  rw [← hQ]
  have hn0 := hO.1
  have hc0 := hO.2.2.2.1
  refine lv_aload_n hx hb dL_covered_0 rfl (lv_at hl 2 rfl) ?_
  refine zr_const hx hb dL_covered_1 ?_
  refine lv_aload_n hx hb dL_covered_2 rfl (lv_at hl 0 rfl) ?_
  refine lv_iload_n hx hb dL_covered_3 rfl (lv_at hl 1 rfl) ?_
  have hrc : ∃ cell : Cell, s.heap[gA g 0]? = some cell ∧ cell.vm.isStatics = false ∧ s.vm.findClass RX9 = some cell.cls := pl_recv hK (vaP_l hP) (hR.2.1 0 (by decide)) hR.1.1 (ci := 8) (q := (RX9, TX9, 3)) rfl
  rcases (show (¬ isN S z) ∨ isN S z by unfold isN; omega) with h1 | h1
  · refine wr_callx (vx_runV (As := [.int (zI z)]) (rest := [.int (zI 0), .ref o]) ⟨hx, hb, hml, hown, hts⟩ (kX9_covered_x l D k L f g S hR hO z hz h1 hlt n0 _) (cwV 1 hts gL_covered_X9_covered rfl rfl rfl (by decide +kernel) ⟨Nat.le_of_ble_eq_true rfl, Nat.le_of_ble_eq_true rfl⟩) (xc_preV hC.sub4 hX (vaP_l hP) hn9 (vaD_l hD) hS hAn hrc) rfl rfl hl.1 rfl (lv_room (Nat.le_of_ble_eq_true rfl)) dL_covered_4 ⟨Nat.le_of_ble_eq_true rfl, Nat.le_of_ble_eq_true rfl⟩) hP hD hS hA (fun E ce q9 u H locs hu hP hD hS hcell hv9 hcl => ?_)
    obtain ⟨rfl, rfl⟩ := hu
    refine vx_catch (own := RL) (name := "java/lang/IndexOutOfBoundsException") hown [] ⟨0, 9, 12, 13⟩ [] htb (fun z hz => absurd hz List.not_mem_nil) (by decide) (by decide) (hts (.classLink RL 13 "java/lang/IndexOutOfBoundsException") (by decide +kernel)) (va_Nw.use rfl (hNW (.castable "java/lang/IndexOutOfBoundsException" "java/lang/IndexOutOfBoundsException") (by decide +kernel))) hcell hv9 hcl ?_
    refine lv_astore_n (lv' := [(3, .ref q9), (0, .ref (gA g 0)), (1, .int (zI z)), (2, .ref o)]) hx hb dL_covered_12 rfl hl (by decide) rfl (fun ls hl => ?_)
    refine zr_const hx hb dL_covered_13 ?_
    refine w_widen (k9 := 7) (n9 := 82) (by decide) (by decide) ?_
    rw [hQ]
    refine vx_ret ?_
    exact pc_iret hx hb hrt hP (by rw [← hAd]; exact hD) (by rw [← hAd]; exact hS) (⟨1, 0, S, L, f, g, gl, rfl, by decide, rfl, rfl, hR, hO, fun h => absurd h (by decide), Or.inl ⟨h1, rfl, rfl⟩⟩) dL_covered_14 hlocks
  · have hap := kX9_covered l D k L f g S hR hO z.toNat (by have h7 := h1.1; have h8 := h1.2; omega) n0 s.heap.size
    rw [Int.toNat_of_nonneg h1.1] at hap
    refine wr_calli (va_runV (As := [.int (zI z)]) (rest := [.int (zI 0), .ref o]) ⟨hx, hb, hml, hown, hts⟩ hap (cwV 1 hts gL_covered_X9_covered rfl rfl rfl (by decide +kernel) ⟨Nat.le_of_ble_eq_true rfl, Nat.le_of_ble_eq_true rfl⟩) (pc_preV hC.sub4 (vaP_l hP) hn9 (vaD_l hD) hAn hrc) rfl rfl hl.1 rfl (lv_room (Nat.le_of_ble_eq_true rfl)) dL_covered_4 ⟨Nat.le_of_ble_eq_true rfl, Nat.le_of_ble_eq_true rfl⟩) hP hD hS hA (fun r u H locs hu hP hD hS hz => ?_)
    obtain ⟨rfl, F, rfl, hc9⟩ := hu
    refine lv_i2l (v := (vCov (gatN S (gD g z.toNat) (gR g 2) 30 z.toNat)).toInt64) hx hb dL_covered_7 rfl ?_
    refine wr_last (X := va_pl L F) hx hb hK hP hD hS dL_covered_8 (fun H locs hP hD hS => ?_)
    refine lv_goto (tgt := 15) hx hb dL_covered_9 (by decide) ?_
    refine zr_const hx hb dL_covered_15 ?_
    refine w_widen (k9 := 7) (n9 := 82) (by decide) (by decide) ?_
    rw [hQ]
    refine vx_ret ?_
    exact pc_iret hx hb hrt hP (by rw [← hAd]; exact hD) (by rw [← hAd]; exact hS) (⟨0, vCov (gatN S (gD g z.toNat) (gR g 2) 30 z.toNat), S, L, F, (setRw g 2 (gatN S (gD g z.toNat) (gR g 2) 30)), _, rfl, by decide, rfl, rfl, hc9, hO, fun _ => rfl, Or.inr ⟨h1, rfl, rfl, (gatN S (gD g z.toNat) (gR g 2) 30 z.toNat), gat_rows hR hO (by have h7 := h1.1; have h8 := h1.2; omega), rfl⟩⟩) dL_covered_16 hlocks

set_option maxHeartbeats 4000000 in
set_option maxRecDepth 100000 in
theorem kL_longest (l : Launch) (D : va_G) (k : Nat → ClassId) (cL : ClassId) (L : List Nat) (f : Nat → va_E) (g : CG) (S : SA) (hR : cRep k L f g S) (hO : aOK S) (o : Nat) (gl : Nat → Int64) (z : Int) (hz : -2147483648 ≤ z ∧ z < 2147483648) (hlt : l.stackTraces = false) (n0 sz : Nat) : vx_Met l yL_longest wsL_longest ({ frames := 9, cells := 7, slots := 82, locals := 189 } : Room) (va_Pc [.ref (gA g 0), .int (zI z), .ref o] (xPre D (TYL k cL) n0 (va_pl L f ++ [(o, .inl (cL, 1, .inr (.inl gl)))]) sz)) (va_Qi (wP k cL o (gA g 0) (SpQ S z vLon)) (pB D (va_pl L f ++ [(o, .inl (cL, 1, .inr (.inl gl)))]) sz) (va_A (va_pl L f ++ [(o, .inl (cL, 1, .inr (.inl gl)))]) sz)) (vx_X (fun _ : va_W => False) (fun _ _ _ => True) (va_A (va_pl L f ++ [(o, .inl (cL, 1, .inr (.inl gl)))]) sz)) 7 82 (va_A (va_pl L f ++ [(o, .inl (cL, 1, .inr (.inl gl)))]) sz) := by
  refine vx_ofWH (cc := cL_longest) (maxL := 4) (ret := some .int) (hh := [(0, 9, 12, 13)]) (by decide) rfl ?_
  intro p e s m args below meth c s₁ B hml hv
  obtain ⟨rfl, ⟨hsz, hn9, hP, hC, hD0⟩, hX⟩ := hv
  have hK := hC.1
  have hNW := hC.2.1
  have hx := B.exec
  have hb := B.bytes
  have hrt := B.returns
  have hts := atoms_spec (ws := wsL_longest) B.pre
  have hown : s.vm.findClass RL = some m.cls := findClass_of_methodNamed B.named
  have hlocks := B.notSynchronized
  have htb := vx_table (x := yL_longest) (y := yL_longest) (bytes := cL_longest) (maxL' := 4) (ret' := some .int) (hh := [(0, 9, 12, 13)]) B (hts _ List.mem_cons_self)
  subst hsz
  obtain ⟨A, hAd⟩ : ∃ A, A = va_A (va_pl L f ++ [(o, .inl (cL, 1, .inr (.inl gl)))]) s.heap.size := ⟨_, rfl⟩
  have hD := hD0.self (sz := s.heap.size)
  rw [← hAd] at hD
  have hA : ∀ q : Nat, s.heap.size ≤ q → A q := fun q h => by rw [hAd]; exact Or.inr h
  have hAn : ∀ q : Nat, A q → n0 ≤ q := fun q h => by
    rw [hAd] at h
    rcases h with ⟨k9, e9, hk9⟩ | h
    · exact hD0.2 k9 _ hk9
    · exact Nat.le_trans hn9 h
  have hS : va_S A s.heap s.heap [] := va_S.rf
  have hl := lv_entry ([.ref (gA g 0), .int (zI z), .ref o]) (n := 4) (Nat.le_of_ble_eq_true rfl)
  rw [lg_entry_eq]
  generalize (lg_sl ([.ref (gA g 0), .int (zI z), .ref o]) ++ List.replicate (4 - (lg_sl ([.ref (gA g 0), .int (zI z), .ref o])).length) Slot.unset).toArray = ls at hl ⊢
  have hl : lv_has ls 4 [(0, .ref (gA g 0)), (1, .int (zI z)), (2, .ref o)] := hl
  obtain ⟨Q, hQ⟩ : ∃ Q, Q = vx_MQ below (va_Qi (wP k cL o (gA g 0) (SpQ S z vLon)) (pB D (va_pl L f ++ [(o, .inl (cL, 1, .inr (.inl gl)))]) s.heap.size) (va_A (va_pl L f ++ [(o, .inl (cL, 1, .inr (.inl gl)))]) s.heap.size)) (vx_X (fun _ : va_W => False) (fun _ _ _ => True) (va_A (va_pl L f ++ [(o, .inl (cL, 1, .inr (.inl gl)))]) s.heap.size)) ([.ref (gA g 0), .int (zI z), .ref o] : List Value).toArray s 7 82 (va_A (va_pl L f ++ [(o, .inl (cL, 1, .inr (.inl gl)))]) s.heap.size) := ⟨_, rfl⟩
  rw [← hQ]
  have hn0 := hO.1
  have hc0 := hO.2.2.2.1
  refine lv_aload_n hx hb dL_longest_0 rfl (lv_at hl 2 rfl) ?_
  refine zr_const hx hb dL_longest_1 ?_
  refine lv_aload_n hx hb dL_longest_2 rfl (lv_at hl 0 rfl) ?_
  refine lv_iload_n hx hb dL_longest_3 rfl (lv_at hl 1 rfl) ?_
  have hrc : ∃ cell : Cell, s.heap[gA g 0]? = some cell ∧ cell.vm.isStatics = false ∧ s.vm.findClass RX9 = some cell.cls := pl_recv hK (vaP_l hP) (hR.2.1 0 (by decide)) hR.1.1 (ci := 8) (q := (RX9, TX9, 3)) rfl
  rcases (show (¬ isN S z) ∨ isN S z by unfold isN; omega) with h1 | h1
  · refine wr_callx (vx_runV (As := [.int (zI z)]) (rest := [.int (zI 0), .ref o]) ⟨hx, hb, hml, hown, hts⟩ (kX9_longest_x l D k L f g S hR hO z hz h1 hlt n0 _) (cwV 1 hts gL_longest_X9_longest rfl rfl rfl (by decide +kernel) ⟨Nat.le_of_ble_eq_true rfl, Nat.le_of_ble_eq_true rfl⟩) (xc_preV hC.sub4 hX (vaP_l hP) hn9 (vaD_l hD) hS hAn hrc) rfl rfl hl.1 rfl (lv_room (Nat.le_of_ble_eq_true rfl)) dL_longest_4 ⟨Nat.le_of_ble_eq_true rfl, Nat.le_of_ble_eq_true rfl⟩) hP hD hS hA (fun E ce q9 u H locs hu hP hD hS hcell hv9 hcl => ?_)
    obtain ⟨rfl, rfl⟩ := hu
    refine vx_catch (own := RL) (name := "java/lang/IndexOutOfBoundsException") hown [] ⟨0, 9, 12, 13⟩ [] htb (fun z hz => absurd hz List.not_mem_nil) (by decide) (by decide) (hts (.classLink RL 13 "java/lang/IndexOutOfBoundsException") (by decide +kernel)) (va_Nw.use rfl (hNW (.castable "java/lang/IndexOutOfBoundsException" "java/lang/IndexOutOfBoundsException") (by decide +kernel))) hcell hv9 hcl ?_
    refine lv_astore_n (lv' := [(3, .ref q9), (0, .ref (gA g 0)), (1, .int (zI z)), (2, .ref o)]) hx hb dL_longest_12 rfl hl (by decide) rfl (fun ls hl => ?_)
    refine zr_const hx hb dL_longest_13 ?_
    refine w_widen (k9 := 7) (n9 := 82) (by decide) (by decide) ?_
    rw [hQ]
    refine vx_ret ?_
    exact pc_iret hx hb hrt hP (by rw [← hAd]; exact hD) (by rw [← hAd]; exact hS) (⟨1, 0, S, L, f, g, gl, rfl, by decide, rfl, rfl, hR, hO, fun h => absurd h (by decide), Or.inl ⟨h1, rfl, rfl⟩⟩) dL_longest_14 hlocks
  · have hap := kX9_longest l D k L f g S hR hO z.toNat (by have h7 := h1.1; have h8 := h1.2; omega) n0 s.heap.size
    rw [Int.toNat_of_nonneg h1.1] at hap
    refine wr_calli (va_runV (As := [.int (zI z)]) (rest := [.int (zI 0), .ref o]) ⟨hx, hb, hml, hown, hts⟩ hap (cwV 1 hts gL_longest_X9_longest rfl rfl rfl (by decide +kernel) ⟨Nat.le_of_ble_eq_true rfl, Nat.le_of_ble_eq_true rfl⟩) (pc_preV hC.sub4 (vaP_l hP) hn9 (vaD_l hD) hAn hrc) rfl rfl hl.1 rfl (lv_room (Nat.le_of_ble_eq_true rfl)) dL_longest_4 ⟨Nat.le_of_ble_eq_true rfl, Nat.le_of_ble_eq_true rfl⟩) hP hD hS hA (fun r u H locs hu hP hD hS hz => ?_)
    obtain ⟨rfl, F, rfl, hc9⟩ := hu
    refine lv_i2l (v := (vLon (gatN S (gD g z.toNat) (gR g 2) 30 z.toNat)).toInt64) hx hb dL_longest_7 rfl ?_
    refine wr_last (X := va_pl L F) hx hb hK hP hD hS dL_longest_8 (fun H locs hP hD hS => ?_)
    refine lv_goto (tgt := 15) hx hb dL_longest_9 (by decide) ?_
    refine zr_const hx hb dL_longest_15 ?_
    refine w_widen (k9 := 7) (n9 := 82) (by decide) (by decide) ?_
    rw [hQ]
    refine vx_ret ?_
    exact pc_iret hx hb hrt hP (by rw [← hAd]; exact hD) (by rw [← hAd]; exact hS) (⟨0, vLon (gatN S (gD g z.toNat) (gR g 2) 30 z.toNat), S, L, F, (setRw g 2 (gatN S (gD g z.toNat) (gR g 2) 30)), _, rfl, by decide, rfl, rfl, hc9, hO, fun _ => rfl, Or.inr ⟨h1, rfl, rfl, (gatN S (gD g z.toNat) (gR g 2) 30 z.toNat), gat_rows hR hO (by have h7 := h1.1; have h8 := h1.2; omega), rfl⟩⟩) dL_longest_16 hlocks

set_option maxHeartbeats 4000000 in
set_option maxRecDepth 100000 in
theorem kL_deepest (l : Launch) (D : va_G) (k : Nat → ClassId) (cL : ClassId) (L : List Nat) (f : Nat → va_E) (g : CG) (S : SA) (hR : cRep k L f g S) (hO : aOK S) (o : Nat) (gl : Nat → Int64) (z : Int) (hz : -2147483648 ≤ z ∧ z < 2147483648) (hlt : l.stackTraces = false) (n0 sz : Nat) : vx_Met l yL_deepest wsL_deepest ({ frames := 9, cells := 7, slots := 82, locals := 189 } : Room) (va_Pc [.ref (gA g 0), .int (zI z), .ref o] (xPre D (TYL k cL) n0 (va_pl L f ++ [(o, .inl (cL, 1, .inr (.inl gl)))]) sz)) (va_Qi (wP k cL o (gA g 0) (SpQ S z vDep)) (pB D (va_pl L f ++ [(o, .inl (cL, 1, .inr (.inl gl)))]) sz) (va_A (va_pl L f ++ [(o, .inl (cL, 1, .inr (.inl gl)))]) sz)) (vx_X (fun _ : va_W => False) (fun _ _ _ => True) (va_A (va_pl L f ++ [(o, .inl (cL, 1, .inr (.inl gl)))]) sz)) 7 82 (va_A (va_pl L f ++ [(o, .inl (cL, 1, .inr (.inl gl)))]) sz) := by
  refine vx_ofWH (cc := cL_deepest) (maxL := 4) (ret := some .int) (hh := [(0, 9, 12, 13)]) (by decide) rfl ?_
  intro p e s m args below meth c s₁ B hml hv
  obtain ⟨rfl, ⟨hsz, hn9, hP, hC, hD0⟩, hX⟩ := hv
  have hK := hC.1
  have hNW := hC.2.1
  have hx := B.exec
  have hb := B.bytes
  have hrt := B.returns
  have hts := atoms_spec (ws := wsL_deepest) B.pre
  have hown : s.vm.findClass RL = some m.cls := findClass_of_methodNamed B.named
  have hlocks := B.notSynchronized
  have htb := vx_table (x := yL_deepest) (y := yL_deepest) (bytes := cL_deepest) (maxL' := 4) (ret' := some .int) (hh := [(0, 9, 12, 13)]) B (hts _ List.mem_cons_self)
  subst hsz
  obtain ⟨A, hAd⟩ : ∃ A, A = va_A (va_pl L f ++ [(o, .inl (cL, 1, .inr (.inl gl)))]) s.heap.size := ⟨_, rfl⟩
  have hD := hD0.self (sz := s.heap.size)
  rw [← hAd] at hD
  have hA : ∀ q : Nat, s.heap.size ≤ q → A q := fun q h => by rw [hAd]; exact Or.inr h
  have hAn : ∀ q : Nat, A q → n0 ≤ q := fun q h => by
    rw [hAd] at h
    rcases h with ⟨k9, e9, hk9⟩ | h
    · exact hD0.2 k9 _ hk9
    · exact Nat.le_trans hn9 h
  have hS : va_S A s.heap s.heap [] := va_S.rf
  have hl := lv_entry ([.ref (gA g 0), .int (zI z), .ref o]) (n := 4) (Nat.le_of_ble_eq_true rfl)
  rw [lg_entry_eq]
  generalize (lg_sl ([.ref (gA g 0), .int (zI z), .ref o]) ++ List.replicate (4 - (lg_sl ([.ref (gA g 0), .int (zI z), .ref o])).length) Slot.unset).toArray = ls at hl ⊢
  have hl : lv_has ls 4 [(0, .ref (gA g 0)), (1, .int (zI z)), (2, .ref o)] := hl
  obtain ⟨Q, hQ⟩ : ∃ Q, Q = vx_MQ below (va_Qi (wP k cL o (gA g 0) (SpQ S z vDep)) (pB D (va_pl L f ++ [(o, .inl (cL, 1, .inr (.inl gl)))]) s.heap.size) (va_A (va_pl L f ++ [(o, .inl (cL, 1, .inr (.inl gl)))]) s.heap.size)) (vx_X (fun _ : va_W => False) (fun _ _ _ => True) (va_A (va_pl L f ++ [(o, .inl (cL, 1, .inr (.inl gl)))]) s.heap.size)) ([.ref (gA g 0), .int (zI z), .ref o] : List Value).toArray s 7 82 (va_A (va_pl L f ++ [(o, .inl (cL, 1, .inr (.inl gl)))]) s.heap.size) := ⟨_, rfl⟩
  rw [← hQ]
  have hn0 := hO.1
  have hc0 := hO.2.2.2.1
  refine lv_aload_n hx hb dL_deepest_0 rfl (lv_at hl 2 rfl) ?_
  refine zr_const hx hb dL_deepest_1 ?_
  refine lv_aload_n hx hb dL_deepest_2 rfl (lv_at hl 0 rfl) ?_
  refine lv_iload_n hx hb dL_deepest_3 rfl (lv_at hl 1 rfl) ?_
  have hrc : ∃ cell : Cell, s.heap[gA g 0]? = some cell ∧ cell.vm.isStatics = false ∧ s.vm.findClass RX9 = some cell.cls := pl_recv hK (vaP_l hP) (hR.2.1 0 (by decide)) hR.1.1 (ci := 8) (q := (RX9, TX9, 3)) rfl
  rcases (show (¬ isN S z) ∨ isN S z by unfold isN; omega) with h1 | h1
  · refine wr_callx (vx_runV (As := [.int (zI z)]) (rest := [.int (zI 0), .ref o]) ⟨hx, hb, hml, hown, hts⟩ (kX9_deepest_x l D k L f g S hR hO z hz h1 hlt n0 _) (cwV 1 hts gL_deepest_X9_deepest rfl rfl rfl (by decide +kernel) ⟨Nat.le_of_ble_eq_true rfl, Nat.le_of_ble_eq_true rfl⟩) (xc_preV hC.sub4 hX (vaP_l hP) hn9 (vaD_l hD) hS hAn hrc) rfl rfl hl.1 rfl (lv_room (Nat.le_of_ble_eq_true rfl)) dL_deepest_4 ⟨Nat.le_of_ble_eq_true rfl, Nat.le_of_ble_eq_true rfl⟩) hP hD hS hA (fun E ce q9 u H locs hu hP hD hS hcell hv9 hcl => ?_)
    obtain ⟨rfl, rfl⟩ := hu
    refine vx_catch (own := RL) (name := "java/lang/IndexOutOfBoundsException") hown [] ⟨0, 9, 12, 13⟩ [] htb (fun z hz => absurd hz List.not_mem_nil) (by decide) (by decide) (hts (.classLink RL 13 "java/lang/IndexOutOfBoundsException") (by decide +kernel)) (va_Nw.use rfl (hNW (.castable "java/lang/IndexOutOfBoundsException" "java/lang/IndexOutOfBoundsException") (by decide +kernel))) hcell hv9 hcl ?_
    refine lv_astore_n (lv' := [(3, .ref q9), (0, .ref (gA g 0)), (1, .int (zI z)), (2, .ref o)]) hx hb dL_deepest_12 rfl hl (by decide) rfl (fun ls hl => ?_)
    refine zr_const hx hb dL_deepest_13 ?_
    refine w_widen (k9 := 7) (n9 := 82) (by decide) (by decide) ?_
    rw [hQ]
    refine vx_ret ?_
    exact pc_iret hx hb hrt hP (by rw [← hAd]; exact hD) (by rw [← hAd]; exact hS) (⟨1, 0, S, L, f, g, gl, rfl, by decide, rfl, rfl, hR, hO, fun h => absurd h (by decide), Or.inl ⟨h1, rfl, rfl⟩⟩) dL_deepest_14 hlocks
  · have hap := kX9_deepest l D k L f g S hR hO z.toNat (by have h7 := h1.1; have h8 := h1.2; omega) n0 s.heap.size
    rw [Int.toNat_of_nonneg h1.1] at hap
    refine wr_calli (va_runV (As := [.int (zI z)]) (rest := [.int (zI 0), .ref o]) ⟨hx, hb, hml, hown, hts⟩ hap (cwV 1 hts gL_deepest_X9_deepest rfl rfl rfl (by decide +kernel) ⟨Nat.le_of_ble_eq_true rfl, Nat.le_of_ble_eq_true rfl⟩) (pc_preV hC.sub4 (vaP_l hP) hn9 (vaD_l hD) hAn hrc) rfl rfl hl.1 rfl (lv_room (Nat.le_of_ble_eq_true rfl)) dL_deepest_4 ⟨Nat.le_of_ble_eq_true rfl, Nat.le_of_ble_eq_true rfl⟩) hP hD hS hA (fun r u H locs hu hP hD hS hz => ?_)
    obtain ⟨rfl, F, rfl, hc9⟩ := hu
    refine lv_i2l (v := (vDep (gatN S (gD g z.toNat) (gR g 2) 30 z.toNat)).toInt64) hx hb dL_deepest_7 rfl ?_
    refine wr_last (X := va_pl L F) hx hb hK hP hD hS dL_deepest_8 (fun H locs hP hD hS => ?_)
    refine lv_goto (tgt := 15) hx hb dL_deepest_9 (by decide) ?_
    refine zr_const hx hb dL_deepest_15 ?_
    refine w_widen (k9 := 7) (n9 := 82) (by decide) (by decide) ?_
    rw [hQ]
    refine vx_ret ?_
    exact pc_iret hx hb hrt hP (by rw [← hAd]; exact hD) (by rw [← hAd]; exact hS) (⟨0, vDep (gatN S (gD g z.toNat) (gR g 2) 30 z.toNat), S, L, F, (setRw g 2 (gatN S (gD g z.toNat) (gR g 2) 30)), _, rfl, by decide, rfl, rfl, hc9, hO, fun _ => rfl, Or.inr ⟨h1, rfl, rfl, (gatN S (gD g z.toNat) (gR g 2) 30 z.toNat), gat_rows hR hO (by have h7 := h1.1; have h8 := h1.2; omega), rfl⟩⟩) dL_deepest_16 hlocks

set_option maxHeartbeats 4000000 in
set_option maxRecDepth 100000 in
theorem kL_regionsOneByOne (l : Launch) (D : va_G) (k : Nat → ClassId) (cL : ClassId) (L : List Nat) (f : Nat → va_E) (g : CG) (S : SA) (hR : cRep k L f g S) (hO : aOK S) (o : Nat) (gl : Nat → Int64) (z : Int) (hz : -2147483648 ≤ z ∧ z < 2147483648) (hlt : l.stackTraces = false) (n0 sz : Nat) : vx_Met l yL_regionsOneByOne wsL_regionsOneByOne ({ frames := 9, cells := 7, slots := 82, locals := 189 } : Room) (va_Pc [.ref (gA g 0), .int (zI z), .ref o] (xPre D (TYL k cL) n0 (va_pl L f ++ [(o, .inl (cL, 1, .inr (.inl gl)))]) sz)) (va_Qi (wP k cL o (gA g 0) (SpQ S z vSize)) (pB D (va_pl L f ++ [(o, .inl (cL, 1, .inr (.inl gl)))]) sz) (va_A (va_pl L f ++ [(o, .inl (cL, 1, .inr (.inl gl)))]) sz)) (vx_X (fun _ : va_W => False) (fun _ _ _ => True) (va_A (va_pl L f ++ [(o, .inl (cL, 1, .inr (.inl gl)))]) sz)) 7 82 (va_A (va_pl L f ++ [(o, .inl (cL, 1, .inr (.inl gl)))]) sz) := by
  refine vx_ofWH (cc := cL_regionsOneByOne) (maxL := 4) (ret := some .int) (hh := [(0, 9, 12, 13)]) (by decide) rfl ?_
  intro p e s m args below meth c s₁ B hml hv
  obtain ⟨rfl, ⟨hsz, hn9, hP, hC, hD0⟩, hX⟩ := hv
  have hK := hC.1
  have hNW := hC.2.1
  have hx := B.exec
  have hb := B.bytes
  have hrt := B.returns
  have hts := atoms_spec (ws := wsL_regionsOneByOne) B.pre
  have hown : s.vm.findClass RL = some m.cls := findClass_of_methodNamed B.named
  have hlocks := B.notSynchronized
  have htb := vx_table (x := yL_regionsOneByOne) (y := yL_regionsOneByOne) (bytes := cL_regionsOneByOne) (maxL' := 4) (ret' := some .int) (hh := [(0, 9, 12, 13)]) B (hts _ List.mem_cons_self)
  subst hsz
  obtain ⟨A, hAd⟩ : ∃ A, A = va_A (va_pl L f ++ [(o, .inl (cL, 1, .inr (.inl gl)))]) s.heap.size := ⟨_, rfl⟩
  have hD := hD0.self (sz := s.heap.size)
  rw [← hAd] at hD
  have hA : ∀ q : Nat, s.heap.size ≤ q → A q := fun q h => by rw [hAd]; exact Or.inr h
  have hAn : ∀ q : Nat, A q → n0 ≤ q := fun q h => by
    rw [hAd] at h
    rcases h with ⟨k9, e9, hk9⟩ | h
    · exact hD0.2 k9 _ hk9
    · exact Nat.le_trans hn9 h
  have hS : va_S A s.heap s.heap [] := va_S.rf
  have hl := lv_entry ([.ref (gA g 0), .int (zI z), .ref o]) (n := 4) (Nat.le_of_ble_eq_true rfl)
  rw [lg_entry_eq]
  generalize (lg_sl ([.ref (gA g 0), .int (zI z), .ref o]) ++ List.replicate (4 - (lg_sl ([.ref (gA g 0), .int (zI z), .ref o])).length) Slot.unset).toArray = ls at hl ⊢
  have hl : lv_has ls 4 [(0, .ref (gA g 0)), (1, .int (zI z)), (2, .ref o)] := hl
  obtain ⟨Q, hQ⟩ : ∃ Q, Q = vx_MQ below (va_Qi (wP k cL o (gA g 0) (SpQ S z vSize)) (pB D (va_pl L f ++ [(o, .inl (cL, 1, .inr (.inl gl)))]) s.heap.size) (va_A (va_pl L f ++ [(o, .inl (cL, 1, .inr (.inl gl)))]) s.heap.size)) (vx_X (fun _ : va_W => False) (fun _ _ _ => True) (va_A (va_pl L f ++ [(o, .inl (cL, 1, .inr (.inl gl)))]) s.heap.size)) ([.ref (gA g 0), .int (zI z), .ref o] : List Value).toArray s 7 82 (va_A (va_pl L f ++ [(o, .inl (cL, 1, .inr (.inl gl)))]) s.heap.size) := ⟨_, rfl⟩
  rw [← hQ]
  have hn0 := hO.1
  have hc0 := hO.2.2.2.1
  refine lv_aload_n hx hb dL_regionsOneByOne_0 rfl (lv_at hl 2 rfl) ?_
  refine zr_const hx hb dL_regionsOneByOne_1 ?_
  refine lv_aload_n hx hb dL_regionsOneByOne_2 rfl (lv_at hl 0 rfl) ?_
  refine lv_iload_n hx hb dL_regionsOneByOne_3 rfl (lv_at hl 1 rfl) ?_
  have hrc : ∃ cell : Cell, s.heap[gA g 0]? = some cell ∧ cell.vm.isStatics = false ∧ s.vm.findClass RX9 = some cell.cls := pl_recv hK (vaP_l hP) (hR.2.1 0 (by decide)) hR.1.1 (ci := 8) (q := (RX9, TX9, 3)) rfl
  rcases (show (¬ isN S z) ∨ isN S z by unfold isN; omega) with h1 | h1
  · refine wr_callx (vx_runV (As := [.int (zI z)]) (rest := [.int (zI 0), .ref o]) ⟨hx, hb, hml, hown, hts⟩ (kX9_regionsOneByOne_x l D k L f g S hR hO z hz h1 hlt n0 _) (cwV 1 hts gL_regionsOneByOne_X9_regionsOneByOne rfl rfl rfl (by decide +kernel) ⟨Nat.le_of_ble_eq_true rfl, Nat.le_of_ble_eq_true rfl⟩) (xc_preV hC.sub4 hX (vaP_l hP) hn9 (vaD_l hD) hS hAn hrc) rfl rfl hl.1 rfl (lv_room (Nat.le_of_ble_eq_true rfl)) dL_regionsOneByOne_4 ⟨Nat.le_of_ble_eq_true rfl, Nat.le_of_ble_eq_true rfl⟩) hP hD hS hA (fun E ce q9 u H locs hu hP hD hS hcell hv9 hcl => ?_)
    obtain ⟨rfl, rfl⟩ := hu
    refine vx_catch (own := RL) (name := "java/lang/IndexOutOfBoundsException") hown [] ⟨0, 9, 12, 13⟩ [] htb (fun z hz => absurd hz List.not_mem_nil) (by decide) (by decide) (hts (.classLink RL 13 "java/lang/IndexOutOfBoundsException") (by decide +kernel)) (va_Nw.use rfl (hNW (.castable "java/lang/IndexOutOfBoundsException" "java/lang/IndexOutOfBoundsException") (by decide +kernel))) hcell hv9 hcl ?_
    refine lv_astore_n (lv' := [(3, .ref q9), (0, .ref (gA g 0)), (1, .int (zI z)), (2, .ref o)]) hx hb dL_regionsOneByOne_12 rfl hl (by decide) rfl (fun ls hl => ?_)
    refine zr_const hx hb dL_regionsOneByOne_13 ?_
    refine w_widen (k9 := 7) (n9 := 82) (by decide) (by decide) ?_
    rw [hQ]
    refine vx_ret ?_
    exact pc_iret hx hb hrt hP (by rw [← hAd]; exact hD) (by rw [← hAd]; exact hS) (⟨1, 0, S, L, f, g, gl, rfl, by decide, rfl, rfl, hR, hO, fun h => absurd h (by decide), Or.inl ⟨h1, rfl, rfl⟩⟩) dL_regionsOneByOne_14 hlocks
  · have hap := kX9_regionsOneByOne l D k L f g S hR hO z.toNat (by have h7 := h1.1; have h8 := h1.2; omega) n0 s.heap.size
    rw [Int.toNat_of_nonneg h1.1] at hap
    refine wr_calli (va_runV (As := [.int (zI z)]) (rest := [.int (zI 0), .ref o]) ⟨hx, hb, hml, hown, hts⟩ hap (cwV 1 hts gL_regionsOneByOne_X9_regionsOneByOne rfl rfl rfl (by decide +kernel) ⟨Nat.le_of_ble_eq_true rfl, Nat.le_of_ble_eq_true rfl⟩) (pc_preV hC.sub4 (vaP_l hP) hn9 (vaD_l hD) hAn hrc) rfl rfl hl.1 rfl (lv_room (Nat.le_of_ble_eq_true rfl)) dL_regionsOneByOne_4 ⟨Nat.le_of_ble_eq_true rfl, Nat.le_of_ble_eq_true rfl⟩) hP hD hS hA (fun r u H locs hu hP hD hS hz => ?_)
    obtain ⟨F, X, J, rfl, rfl, hc9, hX9⟩ := hu
    refine lv_i2l (v := (vSize (X z.toNat)).toInt64) hx hb dL_regionsOneByOne_7 rfl ?_
    refine wr_last (X := va_pl L F) hx hb hK hP hD hS dL_regionsOneByOne_8 (fun H locs hP hD hS => ?_)
    refine lv_goto (tgt := 15) hx hb dL_regionsOneByOne_9 (by decide) ?_
    refine zr_const hx hb dL_regionsOneByOne_15 ?_
    refine w_widen (k9 := 7) (n9 := 82) (by decide) (by decide) ?_
    rw [hQ]
    refine vx_ret ?_
    exact pc_iret hx hb hrt hP (by rw [← hAd]; exact hD) (by rw [← hAd]; exact hS) (⟨0, vSize (X z.toNat), S, L, F, (setRw (setRw g 6 J) 4 X), _, rfl, by decide, rfl, rfl, hc9, hO, fun _ => rfl, Or.inr ⟨h1, rfl, rfl, X z.toNat, ask_rows hR hO (by have h7 := h1.1; have h8 := h1.2; omega) hX9, rfl⟩⟩) dL_regionsOneByOne_16 hlocks

set_option maxHeartbeats 4000000 in
set_option maxRecDepth 100000 in
theorem kL_has (l : Launch) (D : va_G) (k : Nat → ClassId) (cL : ClassId) (L : List Nat) (f : Nat → va_E) (g : CG) (S : SA) (hR : cRep k L f g S) (hO : aOK S) (o : Nat) (gl : Nat → Int64) (z : Int) (hz : -2147483648 ≤ z ∧ z < 2147483648) (y : Int) (hy : -2147483648 ≤ y ∧ y < 2147483648) (x : Int) (hx9 : -2147483648 ≤ x ∧ x < 2147483648) (hlt : l.stackTraces = false) (n0 sz : Nat) : vx_Met l yL_has wsL_has ({ frames := 9, cells := 7, slots := 82, locals := 189 } : Room) (va_Pc [.ref (gA g 0), .int (zI z), .int (zI y), .int (zI x), .ref o] (xPre D (TYL k cL) n0 (va_pl L f ++ [(o, .inl (cL, 1, .inr (.inl gl)))]) sz)) (va_Qi (wP k cL o (gA g 0) (SpQ S z (vHas y x))) (pB D (va_pl L f ++ [(o, .inl (cL, 1, .inr (.inl gl)))]) sz) (va_A (va_pl L f ++ [(o, .inl (cL, 1, .inr (.inl gl)))]) sz)) (vx_X (fun _ : va_W => False) (fun _ _ _ => True) (va_A (va_pl L f ++ [(o, .inl (cL, 1, .inr (.inl gl)))]) sz)) 7 82 (va_A (va_pl L f ++ [(o, .inl (cL, 1, .inr (.inl gl)))]) sz) := by
  refine vx_ofWH (cc := cL_has) (maxL := 6) (ret := some .int) (hh := [(0, 19, 22, 13)]) (by decide) rfl ?_
  intro p e s m args below meth c s₁ B hml hv
  obtain ⟨rfl, ⟨hsz, hn9, hP, hC, hD0⟩, hX⟩ := hv
  have hK := hC.1
  have hNW := hC.2.1
  have hx := B.exec
  have hb := B.bytes
  have hrt := B.returns
  have hts := atoms_spec (ws := wsL_has) B.pre
  have hown : s.vm.findClass RL = some m.cls := findClass_of_methodNamed B.named
  have hlocks := B.notSynchronized
  have htb := vx_table (x := yL_has) (y := yL_has) (bytes := cL_has) (maxL' := 6) (ret' := some .int) (hh := [(0, 19, 22, 13)]) B (hts _ List.mem_cons_self)
  subst hsz
  obtain ⟨A, hAd⟩ : ∃ A, A = va_A (va_pl L f ++ [(o, .inl (cL, 1, .inr (.inl gl)))]) s.heap.size := ⟨_, rfl⟩
  have hD := hD0.self (sz := s.heap.size)
  rw [← hAd] at hD
  have hA : ∀ q : Nat, s.heap.size ≤ q → A q := fun q h => by rw [hAd]; exact Or.inr h
  have hAn : ∀ q : Nat, A q → n0 ≤ q := fun q h => by
    rw [hAd] at h
    rcases h with ⟨k9, e9, hk9⟩ | h
    · exact hD0.2 k9 _ hk9
    · exact Nat.le_trans hn9 h
  have hS : va_S A s.heap s.heap [] := va_S.rf
  have hl := lv_entry ([.ref (gA g 0), .int (zI z), .int (zI y), .int (zI x), .ref o]) (n := 6) (Nat.le_of_ble_eq_true rfl)
  rw [lg_entry_eq]
  generalize (lg_sl ([.ref (gA g 0), .int (zI z), .int (zI y), .int (zI x), .ref o]) ++ List.replicate (6 - (lg_sl ([.ref (gA g 0), .int (zI z), .int (zI y), .int (zI x), .ref o])).length) Slot.unset).toArray = ls at hl ⊢
  have hl : lv_has ls 6 [(0, .ref (gA g 0)), (1, .int (zI z)), (2, .int (zI y)), (3, .int (zI x)), (4, .ref o)] := hl
  obtain ⟨Q, hQ⟩ : ∃ Q, Q = vx_MQ below (va_Qi (wP k cL o (gA g 0) (SpQ S z (vHas y x))) (pB D (va_pl L f ++ [(o, .inl (cL, 1, .inr (.inl gl)))]) s.heap.size) (va_A (va_pl L f ++ [(o, .inl (cL, 1, .inr (.inl gl)))]) s.heap.size)) (vx_X (fun _ : va_W => False) (fun _ _ _ => True) (va_A (va_pl L f ++ [(o, .inl (cL, 1, .inr (.inl gl)))]) s.heap.size)) ([.ref (gA g 0), .int (zI z), .int (zI y), .int (zI x), .ref o] : List Value).toArray s 7 82 (va_A (va_pl L f ++ [(o, .inl (cL, 1, .inr (.inl gl)))]) s.heap.size) := ⟨_, rfl⟩
  rw [← hQ]
  have hn0 := hO.1
  have hc0 := hO.2.2.2.1
  refine lv_aload hx hb dL_has_0 (lv_at hl 4 rfl) ?_
  refine zr_const hx hb dL_has_2 ?_
  refine lv_aload_n hx hb dL_has_3 rfl (lv_at hl 0 rfl) ?_
  refine lv_iload_n hx hb dL_has_4 rfl (lv_at hl 1 rfl) ?_
  refine lv_iload_n hx hb dL_has_5 rfl (lv_at hl 2 rfl) ?_
  refine lv_iload_n hx hb dL_has_6 rfl (lv_at hl 3 rfl) ?_
  have hrc : ∃ cell : Cell, s.heap[gA g 0]? = some cell ∧ cell.vm.isStatics = false ∧ s.vm.findClass RX9 = some cell.cls := pl_recv hK (vaP_l hP) (hR.2.1 0 (by decide)) hR.1.1 (ci := 8) (q := (RX9, TX9, 3)) rfl
  rcases (show (¬ isN S z) ∨ isN S z by unfold isN; omega) with h1 | h1
  · refine wr_callx (vx_runV (As := [.int (zI z), .int (zI y), .int (zI x)]) (rest := [.int (zI 0), .ref o]) ⟨hx, hb, hml, hown, hts⟩ (kX9_has_x l D k L f g S hR hO z hz h1 y x hlt n0 _) (cwV 3 hts gL_has_X9_has rfl rfl rfl (by decide +kernel) ⟨Nat.le_of_ble_eq_true rfl, Nat.le_of_ble_eq_true rfl⟩) (xc_preV hC.sub4 hX (vaP_l hP) hn9 (vaD_l hD) hS hAn hrc) rfl rfl hl.1 rfl (lv_room (Nat.le_of_ble_eq_true rfl)) dL_has_7 ⟨Nat.le_of_ble_eq_true rfl, Nat.le_of_ble_eq_true rfl⟩) hP hD hS hA (fun E ce q9 u H locs hu hP hD hS hcell hv9 hcl => ?_)
    obtain ⟨rfl, rfl⟩ := hu
    refine vx_catch (own := RL) (name := "java/lang/IndexOutOfBoundsException") hown [] ⟨0, 19, 22, 13⟩ [] htb (fun z hz => absurd hz List.not_mem_nil) (by decide) (by decide) (hts (.classLink RL 13 "java/lang/IndexOutOfBoundsException") (by decide +kernel)) (va_Nw.use rfl (hNW (.castable "java/lang/IndexOutOfBoundsException" "java/lang/IndexOutOfBoundsException") (by decide +kernel))) hcell hv9 hcl ?_
    refine lv_astore (lv' := [(5, .ref q9), (0, .ref (gA g 0)), (1, .int (zI z)), (2, .int (zI y)), (3, .int (zI x)), (4, .ref o)]) hx hb dL_has_22 hl (by decide) rfl (fun ls hl => ?_)
    refine zr_const hx hb dL_has_24 ?_
    refine w_widen (k9 := 7) (n9 := 82) (by decide) (by decide) ?_
    rw [hQ]
    refine vx_ret ?_
    exact pc_iret hx hb hrt hP (by rw [← hAd]; exact hD) (by rw [← hAd]; exact hS) (⟨1, 0, S, L, f, g, gl, rfl, by decide, rfl, rfl, hR, hO, fun h => absurd h (by decide), Or.inl ⟨h1, rfl, rfl⟩⟩) dL_has_25 hlocks
  · have hap := kX9_has l D k L f g S hR hO z.toNat (by have h7 := h1.1; have h8 := h1.2; omega) y hy x hx9 n0 s.heap.size
    rw [Int.toNat_of_nonneg h1.1] at hap
    refine wr_calli (va_runV (As := [.int (zI z), .int (zI y), .int (zI x)]) (rest := [.int (zI 0), .ref o]) ⟨hx, hb, hml, hown, hts⟩ hap (cwV 3 hts gL_has_X9_has rfl rfl rfl (by decide +kernel) ⟨Nat.le_of_ble_eq_true rfl, Nat.le_of_ble_eq_true rfl⟩) (pc_preV hC.sub4 (vaP_l hP) hn9 (vaD_l hD) hAn hrc) rfl rfl hl.1 rfl (lv_room (Nat.le_of_ble_eq_true rfl)) dL_has_7 ⟨Nat.le_of_ble_eq_true rfl, Nat.le_of_ble_eq_true rfl⟩) hP hD hS hA (fun r u H locs hu hP hD hS hz => ?_)
    obtain ⟨rfl, F, rfl, hc9⟩ := hu
    refine zr_ifb_eq (tgt := 17) hx hb dL_has_10 (by decide) (fun c1 => ?_) (fun c1 => ?_)
    · refine lv_lconst (v := 0) hx hb dL_has_17 (by decide) ?_
      refine wr_last (X := va_pl L F) hx hb hK hP hD hS dL_has_18 (fun H locs hP hD hS => ?_)
      refine lv_goto (tgt := 26) hx hb dL_has_19 (by decide) ?_
      refine zr_const hx hb dL_has_26 ?_
      refine w_widen (k9 := 7) (n9 := 82) (by decide) (by decide) ?_
      rw [hQ]
      refine vx_ret ?_
      exact pc_iret hx hb hrt hP (by rw [← hAd]; exact hD) (by rw [← hAd]; exact hS) (⟨0, vHas y x (gatN S (gD g z.toNat) (gR g 2) 30 z.toNat), S, L, F, (setRw g 2 (gatN S (gD g z.toNat) (gR g 2) 30)), _, rfl, by decide, rfl, rfl, hc9, hO, fun _ => by show _ = (bI _).toInt64; rw [c1]; exact (show (0 : Int64) = (bI false).toInt64 by decide), Or.inr ⟨h1, rfl, rfl, (gatN S (gD g z.toNat) (gR g 2) 30 z.toNat), gat_rows hR hO (by have h7 := h1.1; have h8 := h1.2; omega), rfl⟩⟩) dL_has_27 hlocks
    · refine lv_lconst (v := 1) hx hb dL_has_13 (by decide) ?_
      refine lv_goto (tgt := 18) hx hb dL_has_14 (by decide) ?_
      refine wr_last (X := va_pl L F) hx hb hK hP hD hS dL_has_18 (fun H locs hP hD hS => ?_)
      refine lv_goto (tgt := 26) hx hb dL_has_19 (by decide) ?_
      refine zr_const hx hb dL_has_26 ?_
      refine w_widen (k9 := 7) (n9 := 82) (by decide) (by decide) ?_
      rw [hQ]
      refine vx_ret ?_
      exact pc_iret hx hb hrt hP (by rw [← hAd]; exact hD) (by rw [← hAd]; exact hS) (⟨0, vHas y x (gatN S (gD g z.toNat) (gR g 2) 30 z.toNat), S, L, F, (setRw g 2 (gatN S (gD g z.toNat) (gR g 2) 30)), _, rfl, by decide, rfl, rfl, hc9, hO, fun _ => by show _ = (bI _).toInt64; rw [c1]; exact (show (1 : Int64) = (bI true).toInt64 by decide), Or.inr ⟨h1, rfl, rfl, (gatN S (gD g z.toNat) (gR g 2) 30 z.toNat), gat_rows hR hO (by have h7 := h1.1; have h8 := h1.2; omega), rfl⟩⟩) dL_has_27 hlocks

set_option maxHeartbeats 4000000 in
set_option maxRecDepth 100000 in
theorem kL_regionAt (l : Launch) (D : va_G) (k : Nat → ClassId) (cL : ClassId) (L : List Nat) (f : Nat → va_E) (g : CG) (S : SA) (hR : cRep k L f g S) (hO : aOK S) (o : Nat) (gl : Nat → Int64) (z : Int) (hz : -2147483648 ≤ z ∧ z < 2147483648) (y : Int) (hy : -2147483648 ≤ y ∧ y < 2147483648) (hlt : l.stackTraces = false) (n0 sz : Nat) : vx_Met l yL_regionAt wsL_regionAt ({ frames := 9, cells := 7, slots := 82, locals := 189 } : Room) (va_Pc [.ref (gA g 0), .int (zI z), .int (zI y), .ref o] (xPre D (TYL k cL) n0 (va_pl L f ++ [(o, .inl (cL, 1, .inr (.inl gl)))]) sz)) (va_Qi (wP k cL o (gA g 0) (SpRegionAt S z y)) (pB D (va_pl L f ++ [(o, .inl (cL, 1, .inr (.inl gl)))]) sz) (va_A (va_pl L f ++ [(o, .inl (cL, 1, .inr (.inl gl)))]) sz)) (vx_X (fun _ : va_W => False) (fun _ _ _ => True) (va_A (va_pl L f ++ [(o, .inl (cL, 1, .inr (.inl gl)))]) sz)) 7 82 (va_A (va_pl L f ++ [(o, .inl (cL, 1, .inr (.inl gl)))]) sz) := by
  refine vx_ofWH (cc := cL_regionAt) (maxL := 5) (ret := some .int) (hh := [(0, 10, 13, 13)]) (by decide) rfl ?_
  intro p e s m args below meth c s₁ B hml hv
  obtain ⟨rfl, ⟨hsz, hn9, hP, hC, hD0⟩, hX⟩ := hv
  have hK := hC.1
  have hNW := hC.2.1
  have hx := B.exec
  have hb := B.bytes
  have hrt := B.returns
  have hts := atoms_spec (ws := wsL_regionAt) B.pre
  have hown : s.vm.findClass RL = some m.cls := findClass_of_methodNamed B.named
  have hlocks := B.notSynchronized
  have htb := vx_table (x := yL_regionAt) (y := yL_regionAt) (bytes := cL_regionAt) (maxL' := 5) (ret' := some .int) (hh := [(0, 10, 13, 13)]) B (hts _ List.mem_cons_self)
  subst hsz
  obtain ⟨A, hAd⟩ : ∃ A, A = va_A (va_pl L f ++ [(o, .inl (cL, 1, .inr (.inl gl)))]) s.heap.size := ⟨_, rfl⟩
  have hD := hD0.self (sz := s.heap.size)
  rw [← hAd] at hD
  have hA : ∀ q : Nat, s.heap.size ≤ q → A q := fun q h => by rw [hAd]; exact Or.inr h
  have hAn : ∀ q : Nat, A q → n0 ≤ q := fun q h => by
    rw [hAd] at h
    rcases h with ⟨k9, e9, hk9⟩ | h
    · exact hD0.2 k9 _ hk9
    · exact Nat.le_trans hn9 h
  have hS : va_S A s.heap s.heap [] := va_S.rf
  have hl := lv_entry ([.ref (gA g 0), .int (zI z), .int (zI y), .ref o]) (n := 5) (Nat.le_of_ble_eq_true rfl)
  rw [lg_entry_eq]
  generalize (lg_sl ([.ref (gA g 0), .int (zI z), .int (zI y), .ref o]) ++ List.replicate (5 - (lg_sl ([.ref (gA g 0), .int (zI z), .int (zI y), .ref o])).length) Slot.unset).toArray = ls at hl ⊢
  have hl : lv_has ls 5 [(0, .ref (gA g 0)), (1, .int (zI z)), (2, .int (zI y)), (3, .ref o)] := hl
  obtain ⟨Q, hQ⟩ : ∃ Q, Q = vx_MQ below (va_Qi (wP k cL o (gA g 0) (SpRegionAt S z y)) (pB D (va_pl L f ++ [(o, .inl (cL, 1, .inr (.inl gl)))]) s.heap.size) (va_A (va_pl L f ++ [(o, .inl (cL, 1, .inr (.inl gl)))]) s.heap.size)) (vx_X (fun _ : va_W => False) (fun _ _ _ => True) (va_A (va_pl L f ++ [(o, .inl (cL, 1, .inr (.inl gl)))]) s.heap.size)) ([.ref (gA g 0), .int (zI z), .int (zI y), .ref o] : List Value).toArray s 7 82 (va_A (va_pl L f ++ [(o, .inl (cL, 1, .inr (.inl gl)))]) s.heap.size) := ⟨_, rfl⟩
  rw [← hQ]
  have hn0 := hO.1
  have hc0 := hO.2.2.2.1
  refine lv_aload_n hx hb dL_regionAt_0 rfl (lv_at hl 3 rfl) ?_
  refine zr_const hx hb dL_regionAt_1 ?_
  refine lv_aload_n hx hb dL_regionAt_2 rfl (lv_at hl 0 rfl) ?_
  refine lv_iload_n hx hb dL_regionAt_3 rfl (lv_at hl 1 rfl) ?_
  refine lv_iload_n hx hb dL_regionAt_4 rfl (lv_at hl 2 rfl) ?_
  have hrc : ∃ cell : Cell, s.heap[gA g 0]? = some cell ∧ cell.vm.isStatics = false ∧ s.vm.findClass RX9 = some cell.cls := pl_recv hK (vaP_l hP) (hR.2.1 0 (by decide)) hR.1.1 (ci := 8) (q := (RX9, TX9, 3)) rfl
  rcases (show (¬ isN S z) ∨ (isN S z ∧ ¬ (0 ≤ y ∧ y < ((sizeR (gatN S (gD g z.toNat) (gR g 2) 30 z.toNat) : Nat) : Int))) ∨ (isN S z ∧ (0 ≤ y ∧ y < ((sizeR (gatN S (gD g z.toNat) (gR g 2) 30 z.toNat) : Nat) : Int))) by unfold isN; omega) with h1 | h1 | h1
  · refine wr_callx (vx_runV (As := [.int (zI z), .int (zI y)]) (rest := [.int (zI 0), .ref o]) ⟨hx, hb, hml, hown, hts⟩ (kX9_regionAt_x l D k L f g S hR hO z hz h1 y hlt n0 _) (cwV 2 hts gL_regionAt_X9_regionAt rfl rfl rfl (by decide +kernel) ⟨Nat.le_of_ble_eq_true rfl, Nat.le_of_ble_eq_true rfl⟩) (xc_preV hC.sub4 hX (vaP_l hP) hn9 (vaD_l hD) hS hAn hrc) rfl rfl hl.1 rfl (lv_room (Nat.le_of_ble_eq_true rfl)) dL_regionAt_5 ⟨Nat.le_of_ble_eq_true rfl, Nat.le_of_ble_eq_true rfl⟩) hP hD hS hA (fun E ce q9 u H locs hu hP hD hS hcell hv9 hcl => ?_)
    obtain ⟨rfl, rfl⟩ := hu
    refine vx_catch (own := RL) (name := "java/lang/IndexOutOfBoundsException") hown [] ⟨0, 10, 13, 13⟩ [] htb (fun z hz => absurd hz List.not_mem_nil) (by decide) (by decide) (hts (.classLink RL 13 "java/lang/IndexOutOfBoundsException") (by decide +kernel)) (va_Nw.use rfl (hNW (.castable "java/lang/IndexOutOfBoundsException" "java/lang/IndexOutOfBoundsException") (by decide +kernel))) hcell hv9 hcl ?_
    refine lv_astore (lv' := [(4, .ref q9), (0, .ref (gA g 0)), (1, .int (zI z)), (2, .int (zI y)), (3, .ref o)]) hx hb dL_regionAt_13 hl (by decide) rfl (fun ls hl => ?_)
    refine zr_const hx hb dL_regionAt_15 ?_
    refine w_widen (k9 := 7) (n9 := 82) (by decide) (by decide) ?_
    rw [hQ]
    refine vx_ret ?_
    exact pc_iret hx hb hrt hP (by rw [← hAd]; exact hD) (by rw [← hAd]; exact hS) (⟨1, 0, S, L, f, g, gl, rfl, by decide, rfl, rfl, hR, hO, fun h => absurd h (by decide), Or.inl ⟨h1, rfl, rfl⟩⟩) dL_regionAt_16 hlocks
  · have hap := kX9_regionAt_x2 l D k L f g S hR hO z.toNat (by have h7 := h1.1.1; have h8 := h1.1.2; omega) y hy (lin_no (gat_rows hR hO (by have h7 := h1.1.1; have h8 := h1.1.2; omega)) (sem24 hO (by have h7 := h1.1.1; have h8 := h1.1.2; omega)) h1.2) hlt n0 s.heap.size
    rw [Int.toNat_of_nonneg h1.1.1] at hap
    refine wr_callx (vx_runV (As := [.int (zI z), .int (zI y)]) (rest := [.int (zI 0), .ref o]) ⟨hx, hb, hml, hown, hts⟩ hap (cwV 2 hts gL_regionAt_X9_regionAt rfl rfl rfl (by decide +kernel) ⟨Nat.le_of_ble_eq_true rfl, Nat.le_of_ble_eq_true rfl⟩) (xc_preV hC.sub4 hX (vaP_l hP) hn9 (vaD_l hD) hS hAn hrc) rfl rfl hl.1 rfl (lv_room (Nat.le_of_ble_eq_true rfl)) dL_regionAt_5 ⟨Nat.le_of_ble_eq_true rfl, Nat.le_of_ble_eq_true rfl⟩) hP hD hS hA (fun E ce q9 u H locs hu hP hD hS hcell hv9 hcl => ?_)
    obtain ⟨rfl, F, rfl, hc9⟩ := hu
    refine vx_catch (own := RL) (name := "java/lang/IndexOutOfBoundsException") hown [] ⟨0, 10, 13, 13⟩ [] htb (fun z hz => absurd hz List.not_mem_nil) (by decide) (by decide) (hts (.classLink RL 13 "java/lang/IndexOutOfBoundsException") (by decide +kernel)) (va_Nw.use rfl (hNW (.castable "java/lang/IndexOutOfBoundsException" "java/lang/IndexOutOfBoundsException") (by decide +kernel))) hcell hv9 hcl ?_
    refine lv_astore (lv' := [(4, .ref q9), (0, .ref (gA g 0)), (1, .int (zI z)), (2, .int (zI y)), (3, .ref o)]) hx hb dL_regionAt_13 hl (by decide) rfl (fun ls hl => ?_)
    refine zr_const hx hb dL_regionAt_15 ?_
    refine w_widen (k9 := 7) (n9 := 82) (by decide) (by decide) ?_
    rw [hQ]
    refine vx_ret ?_
    exact pc_iret hx hb hrt hP (by rw [← hAd]; exact hD) (by rw [← hAd]; exact hS) (⟨1, 0, S, L, F, (setRw g 2 (gatN S (gD g z.toNat) (gR g 2) 30)), gl, rfl, by decide, rfl, rfl, hc9, hO, fun h => absurd h (by decide), Or.inr (Or.inl ⟨h1.1, rfl, rfl, (gatN S (gD g z.toNat) (gR g 2) 30 z.toNat), (gat_rows hR hO (by have h7 := h1.1.1; have h8 := h1.1.2; omega)), h1.2⟩)⟩) dL_regionAt_16 hlocks
  · obtain ⟨ya, yb, ha, hb9, hq2, hq3⟩ := lin_kth (gat_rows hR hO (by have h7 := h1.1.1; have h8 := h1.1.2; omega)) (sem24 hO (by have h7 := h1.1.1; have h8 := h1.1.2; omega)) h1.2
    have hap := kX9_regionAt l D k L f g S hR hO z.toNat (by have h7 := h1.1.1; have h8 := h1.1.2; omega) y hy ya yb ha hb9 hq2 hq3 n0 s.heap.size
    rw [Int.toNat_of_nonneg h1.1.1] at hap
    refine wr_calli (va_runV (As := [.int (zI z), .int (zI y)]) (rest := [.int (zI 0), .ref o]) ⟨hx, hb, hml, hown, hts⟩ hap (cwV 2 hts gL_regionAt_X9_regionAt rfl rfl rfl (by decide +kernel) ⟨Nat.le_of_ble_eq_true rfl, Nat.le_of_ble_eq_true rfl⟩) (pc_preV hC.sub4 (vaP_l hP) hn9 (vaD_l hD) hAn hrc) rfl rfl hl.1 rfl (lv_room (Nat.le_of_ble_eq_true rfl)) dL_regionAt_5 ⟨Nat.le_of_ble_eq_true rfl, Nat.le_of_ble_eq_true rfl⟩) hP hD hS hA (fun r u H locs hu hP hD hS hz => ?_)
    obtain ⟨rfl, F, rfl, hc9⟩ := hu
    refine lv_i2l (v := (zI (100 * (ya : Int) + (yb : Int))).toInt64) hx hb dL_regionAt_8 rfl ?_
    refine wr_last (X := va_pl L F) hx hb hK hP hD hS dL_regionAt_9 (fun H locs hP hD hS => ?_)
    refine lv_goto (tgt := 17) hx hb dL_regionAt_10 (by decide) ?_
    refine zr_const hx hb dL_regionAt_17 ?_
    refine w_widen (k9 := 7) (n9 := 82) (by decide) (by decide) ?_
    rw [hQ]
    refine vx_ret ?_
    exact pc_iret hx hb hrt hP (by rw [← hAd]; exact hD) (by rw [← hAd]; exact hS) (⟨0, zI (100 * (ya : Int) + (yb : Int)), S, L, F, (setRw g 2 (gatN S (gD g z.toNat) (gR g 2) 30)), _, rfl, by decide, rfl, rfl, hc9, hO, fun _ => rfl, Or.inr (Or.inr ⟨h1.1, rfl, rfl, (gatN S (gD g z.toNat) (gR g 2) 30 z.toNat), ya, yb, (gat_rows hR hO (by have h7 := h1.1.1; have h8 := h1.1.2; omega)), ha, hb9, hq2, hq3, rfl⟩)⟩) dL_regionAt_18 hlocks
