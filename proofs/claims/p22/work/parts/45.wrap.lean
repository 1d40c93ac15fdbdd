set_option maxHeartbeats 4000000 in
set_option maxRecDepth 100000 in
theorem kL_pair (l : Launch) (D : va_G) (k : Nat → ClassId) (L : List Nat) (f : Nat → va_E) (g : CG) (S : SA) (hR : cRep k L f g S) (hO : aOK S) (z : Int) (hz : -2147483648 ≤ z ∧ z < 2147483648) (y : Int) (hy : -2147483648 ≤ y ∧ y < 2147483648) (x : Int) (hx9 : -2147483648 ≤ x ∧ x < 2147483648) (hlt : l.stackTraces = false) (n0 sz : Nat) : Met l yL_pair wsL_pair ({ frames := 9, cells := 7, slots := 82, locals := 189 } : Room) (va_Pc [.ref (gA g 0), .int (zI x), .int (zI z), .int (zI y)] (xPre D (tyL k) n0 (va_pl L f) sz)) (va_Qi (wQ k (gA g 0) (-99999) (SpPair S x z y)) (pB D (va_pl L f) sz) (va_A (va_pl L f) sz)) 7 82 (va_A (va_pl L f) sz) := by
  refine vx_toMet (XC := (vx_X (fun _ : va_W => False) (fun _ _ _ => True) (va_A (va_pl L f) sz))) (vx_ofWH (cc := cL_pair) (maxL := 5) (ret := some .int) (hh := [(0, 7, 8, 14), (0, 7, 13, 17), (0, 7, 18, 19)]) (by decide) rfl ?_) (fun E st t h => by obtain ⟨u, hu, -⟩ := h; exact hu)
  intro p e s m args below meth c s₁ B hml hv
  obtain ⟨rfl, ⟨hsz, hn9, hP, hC, hD0⟩, hX⟩ := hv
  have hK := hC.1
  have hNW := hC.2.1
  have hx := B.exec
  have hb := B.bytes
  have hrt := B.returns
  have hts := atoms_spec (ws := wsL_pair) B.pre
  have hown : s.vm.findClass RL = some m.cls := findClass_of_methodNamed B.named
  have hlocks := B.notSynchronized
  have htb := vx_table (x := yL_pair) (y := yL_pair) (bytes := cL_pair) (maxL' := 5) (ret' := some .int) (hh := [(0, 7, 8, 14), (0, 7, 13, 17), (0, 7, 18, 19)]) B (hts _ List.mem_cons_self)
  subst hsz
  obtain ⟨A, hAd⟩ : ∃ A, A = va_A (va_pl L f) s.heap.size := ⟨_, rfl⟩
  have hD := hD0.self (sz := s.heap.size)
  rw [← hAd] at hD
  have hA : ∀ q : Nat, s.heap.size ≤ q → A q := fun q h => by rw [hAd]; exact Or.inr h
  have hAn : ∀ q : Nat, A q → n0 ≤ q := fun q h => by
    rw [hAd] at h
    rcases h with ⟨k9, e9, hk9⟩ | h
    · exact hD0.2 k9 _ hk9
    · exact Nat.le_trans hn9 h
  have hS : va_S A s.heap s.heap [] := va_S.rf
  have hl := lv_entry ([.ref (gA g 0), .int (zI x), .int (zI z), .int (zI y)]) (n := 5) (Nat.le_of_ble_eq_true rfl)
  rw [lg_entry_eq]
  generalize (lg_sl ([.ref (gA g 0), .int (zI x), .int (zI z), .int (zI y)]) ++ List.replicate (5 - (lg_sl ([.ref (gA g 0), .int (zI x), .int (zI z), .int (zI y)])).length) Slot.unset).toArray = ls at hl ⊢
  have hl : lv_has ls 5 [(0, .ref (gA g 0)), (1, .int (zI x)), (2, .int (zI z)), (3, .int (zI y))] := hl
  obtain ⟨Q, hQ⟩ : ∃ Q, Q = vx_MQ below (va_Qi (wQ k (gA g 0) (-99999) (SpPair S x z y)) (pB D (va_pl L f) s.heap.size) (va_A (va_pl L f) s.heap.size)) (vx_X (fun _ : va_W => False) (fun _ _ _ => True) (va_A (va_pl L f) s.heap.size)) ([.ref (gA g 0), .int (zI x), .int (zI z), .int (zI y)] : List Value).toArray s 7 82 (va_A (va_pl L f) s.heap.size) := ⟨_, rfl⟩
  rw [← hQ]
  have hn0 := hO.1
  have hc0 := hO.2.2.2.1
  refine lv_aload_n hx hb dL_pair_0 rfl (lv_at hl 0 rfl) ?_
  refine lv_iload_n hx hb dL_pair_1 rfl (lv_at hl 1 rfl) ?_
  refine lv_iload_n hx hb dL_pair_2 rfl (lv_at hl 2 rfl) ?_
  refine lv_iload_n hx hb dL_pair_3 rfl (lv_at hl 3 rfl) ?_
  have hrc : ∃ cell : Cell, s.heap[gA g 0]? = some cell ∧ cell.vm.isStatics = false ∧ s.vm.findClass RX9 = some cell.cls := pl_recv hK hP (hR.2.1 0 (by decide)) hR.1.1 (ci := 8) (q := (RX9, TX9, 3)) rfl
  rcases (show (¬ isN S z) ∨ (isN S z ∧ ¬ isN S y) ∨ (isN S z ∧ isN S y ∧ ¬ (0 ≤ x ∧ x ≤ 9)) ∨ (isN S z ∧ isN S y ∧ (0 ≤ x ∧ x ≤ 9) ∧ (sC S = 30 ∨ 6 < mxD S z y)) ∨ (isN S z ∧ isN S y ∧ (0 ≤ x ∧ x ≤ 9) ∧ sC S < 30 ∧ mxD S z y ≤ 6) by unfold isN; omega) with h1 | h1 | h1 | h1 | h1
  · refine pz_callx (vx_runV (As := [.int (zI x), .int (zI z), .int (zI y)]) (rest := []) ⟨hx, hb, hml, hown, hts⟩ (kX9_pair_x l D k L f g S hR hO z hz h1 x y hlt n0 _) (cwV 3 hts gL_pair_X9_pair rfl rfl rfl (by decide +kernel) ⟨Nat.le_of_ble_eq_true rfl, Nat.le_of_ble_eq_true rfl⟩) (xc_preV hC hX hP hn9 hD hS hAn hrc) rfl rfl hl.1 rfl (lv_room (Nat.le_of_ble_eq_true rfl)) dL_pair_4 ⟨Nat.le_of_ble_eq_true rfl, Nat.le_of_ble_eq_true rfl⟩) hD hS hA (fun E ce q9 u H locs hu hP hD hS hcell hv9 hcl => ?_)
    obtain ⟨rfl, rfl⟩ := hu
    refine vx_catch (own := RL) (name := "java/lang/IndexOutOfBoundsException") hown [] ⟨0, 7, 8, 14⟩ [⟨0, 7, 13, 17⟩, ⟨0, 7, 18, 19⟩] htb (fun z hz => absurd hz List.not_mem_nil) (by decide) (by decide) (hts (.classLink RL 14 "java/lang/IndexOutOfBoundsException") (by decide +kernel)) (va_Nw.use rfl (hNW (.castable "java/lang/IndexOutOfBoundsException" "java/lang/IndexOutOfBoundsException") (by decide +kernel))) hcell hv9 hcl ?_
    refine lv_astore (lv' := [(4, .ref q9), (0, .ref (gA g 0)), (1, .int (zI x)), (2, .int (zI z)), (3, .int (zI y))]) hx hb dL_pair_8 hl (by decide) rfl (fun ls hl => ?_)
    refine lv_ldc (v := -99999) hx hb hown (hts (.constant RL 16 (-99999)) (by decide +kernel)) dL_pair_10 ?_
    refine w_widen (k9 := 7) (n9 := 82) (by decide) (by decide) ?_
    rw [hQ]
    refine vx_ret ?_
    exact pc_iret hx hb hrt hP (by rw [← hAd]; exact hD) (by rw [← hAd]; exact hS) (⟨1, 0, S, L, f, g, (if_neg (by decide)).symm, by decide, rfl, rfl, hR, hO, Or.inl ⟨fun q => h1 q.1, rfl, rfl⟩⟩) dL_pair_12 hlocks
  · have hap := kX9_pair_x2 l D k L f g S hR hO z.toNat (by have h7 := h1.1.1; have h8 := h1.1.2; omega) y hy h1.2 x hlt n0 s.heap.size
    rw [Int.toNat_of_nonneg h1.1.1] at hap
    refine pz_callx (vx_runV (As := [.int (zI x), .int (zI z), .int (zI y)]) (rest := []) ⟨hx, hb, hml, hown, hts⟩ hap (cwV 3 hts gL_pair_X9_pair rfl rfl rfl (by decide +kernel) ⟨Nat.le_of_ble_eq_true rfl, Nat.le_of_ble_eq_true rfl⟩) (xc_preV hC hX hP hn9 hD hS hAn hrc) rfl rfl hl.1 rfl (lv_room (Nat.le_of_ble_eq_true rfl)) dL_pair_4 ⟨Nat.le_of_ble_eq_true rfl, Nat.le_of_ble_eq_true rfl⟩) hD hS hA (fun E ce q9 u H locs hu hP hD hS hcell hv9 hcl => ?_)
    obtain ⟨rfl, rfl⟩ := hu
    refine vx_catch (own := RL) (name := "java/lang/IndexOutOfBoundsException") hown [] ⟨0, 7, 8, 14⟩ [⟨0, 7, 13, 17⟩, ⟨0, 7, 18, 19⟩] htb (fun z hz => absurd hz List.not_mem_nil) (by decide) (by decide) (hts (.classLink RL 14 "java/lang/IndexOutOfBoundsException") (by decide +kernel)) (va_Nw.use rfl (hNW (.castable "java/lang/IndexOutOfBoundsException" "java/lang/IndexOutOfBoundsException") (by decide +kernel))) hcell hv9 hcl ?_
    refine lv_astore (lv' := [(4, .ref q9), (0, .ref (gA g 0)), (1, .int (zI x)), (2, .int (zI z)), (3, .int (zI y))]) hx hb dL_pair_8 hl (by decide) rfl (fun ls hl => ?_)
    refine lv_ldc (v := -99999) hx hb hown (hts (.constant RL 16 (-99999)) (by decide +kernel)) dL_pair_10 ?_
    refine w_widen (k9 := 7) (n9 := 82) (by decide) (by decide) ?_
    rw [hQ]
    refine vx_ret ?_
    exact pc_iret hx hb hrt hP (by rw [← hAd]; exact hD) (by rw [← hAd]; exact hS) (⟨1, 0, S, L, f, g, (if_neg (by decide)).symm, by decide, rfl, rfl, hR, hO, Or.inl ⟨fun q => h1.2 q.2, rfl, rfl⟩⟩) dL_pair_12 hlocks
  · have hap := kX9_pair_x3 l D k L f g S hR hO z.toNat (by have h7 := h1.1.1; have h8 := h1.1.2; omega) y.toNat (by have h7 := h1.2.1.1; have h8 := h1.2.1.2; omega) x hx9 h1.2.2 hlt n0 s.heap.size
    rw [Int.toNat_of_nonneg h1.1.1, Int.toNat_of_nonneg h1.2.1.1] at hap
    refine pz_callx (vx_runV (As := [.int (zI x), .int (zI z), .int (zI y)]) (rest := []) ⟨hx, hb, hml, hown, hts⟩ hap (cwV 3 hts gL_pair_X9_pair rfl rfl rfl (by decide +kernel) ⟨Nat.le_of_ble_eq_true rfl, Nat.le_of_ble_eq_true rfl⟩) (xc_preV hC hX hP hn9 hD hS hAn hrc) rfl rfl hl.1 rfl (lv_room (Nat.le_of_ble_eq_true rfl)) dL_pair_4 ⟨Nat.le_of_ble_eq_true rfl, Nat.le_of_ble_eq_true rfl⟩) hD hS hA (fun E ce q9 u H locs hu hP hD hS hcell hv9 hcl => ?_)
    obtain ⟨rfl, rfl⟩ := hu
    refine vx_catch (own := RL) (name := "java/lang/IllegalArgumentException") hown [⟨0, 7, 8, 14⟩] ⟨0, 7, 13, 17⟩ [⟨0, 7, 18, 19⟩] htb (List.forall_mem_cons.mpr ⟨Or.inr ⟨by decide, _, hts (.classLink RL 14 "java/lang/IndexOutOfBoundsException") (by decide +kernel), hX.2.2.1 ("java/lang/IllegalArgumentException", "java/lang/IndexOutOfBoundsException") (by decide)⟩, fun z hz => absurd hz List.not_mem_nil⟩) (by decide) (by decide) (hts (.classLink RL 17 "java/lang/IllegalArgumentException") (by decide +kernel)) (va_Nw.use rfl (hNW (.castable "java/lang/IllegalArgumentException" "java/lang/IllegalArgumentException") (by decide +kernel))) hcell hv9 hcl ?_
    refine lv_astore (lv' := [(4, .ref q9), (0, .ref (gA g 0)), (1, .int (zI x)), (2, .int (zI z)), (3, .int (zI y))]) hx hb dL_pair_13 hl (by decide) rfl (fun ls hl => ?_)
    refine lv_ldc (v := -99999) hx hb hown (hts (.constant RL 16 (-99999)) (by decide +kernel)) dL_pair_15 ?_
    refine w_widen (k9 := 7) (n9 := 82) (by decide) (by decide) ?_
    rw [hQ]
    refine vx_ret ?_
    exact pc_iret hx hb hrt hP (by rw [← hAd]; exact hD) (by rw [← hAd]; exact hS) (⟨2, 0, S, L, f, g, (if_neg (by decide)).symm, by decide, rfl, rfl, hR, hO, Or.inr (Or.inl ⟨⟨h1.1, h1.2.1⟩, h1.2.2, rfl, rfl⟩)⟩) dL_pair_17 hlocks
  · have hap := kX9_pair_x4 l D k L f g S hR hO x.toNat (by omega) z.toNat (by have h7 := h1.1.1; have h8 := h1.1.2; omega) y.toNat (by have h7 := h1.2.1.1; have h8 := h1.2.1.2; omega) (h1.2.2.2.imp (fun q => by omega) id) hlt n0 s.heap.size
    rw [Int.toNat_of_nonneg h1.2.2.1.1, Int.toNat_of_nonneg h1.1.1, Int.toNat_of_nonneg h1.2.1.1] at hap
    refine pz_callx (vx_runV (As := [.int (zI x), .int (zI z), .int (zI y)]) (rest := []) ⟨hx, hb, hml, hown, hts⟩ hap (cwV 3 hts gL_pair_X9_pair rfl rfl rfl (by decide +kernel) ⟨Nat.le_of_ble_eq_true rfl, Nat.le_of_ble_eq_true rfl⟩) (xc_preV hC hX hP hn9 hD hS hAn hrc) rfl rfl hl.1 rfl (lv_room (Nat.le_of_ble_eq_true rfl)) dL_pair_4 ⟨Nat.le_of_ble_eq_true rfl, Nat.le_of_ble_eq_true rfl⟩) hD hS hA (fun E ce q9 u H locs hu hP hD hS hcell hv9 hcl => ?_)
    obtain ⟨rfl, rfl⟩ := hu
    refine vx_catch (own := RL) (name := "java/lang/IllegalStateException") hown [⟨0, 7, 8, 14⟩, ⟨0, 7, 13, 17⟩] ⟨0, 7, 18, 19⟩ [] htb (List.forall_mem_cons.mpr ⟨Or.inr ⟨by decide, _, hts (.classLink RL 14 "java/lang/IndexOutOfBoundsException") (by decide +kernel), hX.2.2.1 ("java/lang/IllegalStateException", "java/lang/IndexOutOfBoundsException") (by decide)⟩, List.forall_mem_cons.mpr ⟨Or.inr ⟨by decide, _, hts (.classLink RL 17 "java/lang/IllegalArgumentException") (by decide +kernel), hX.2.2.1 ("java/lang/IllegalStateException", "java/lang/IllegalArgumentException") (by decide)⟩, fun z hz => absurd hz List.not_mem_nil⟩⟩) (by decide) (by decide) (hts (.classLink RL 19 "java/lang/IllegalStateException") (by decide +kernel)) (va_Nw.use rfl (hNW (.castable "java/lang/IllegalStateException" "java/lang/IllegalStateException") (by decide +kernel))) hcell hv9 hcl ?_
    refine lv_astore (lv' := [(4, .ref q9), (0, .ref (gA g 0)), (1, .int (zI x)), (2, .int (zI z)), (3, .int (zI y))]) hx hb dL_pair_18 hl (by decide) rfl (fun ls hl => ?_)
    refine lv_ldc (v := -99999) hx hb hown (hts (.constant RL 16 (-99999)) (by decide +kernel)) dL_pair_20 ?_
    refine w_widen (k9 := 7) (n9 := 82) (by decide) (by decide) ?_
    rw [hQ]
    refine vx_ret ?_
    exact pc_iret hx hb hrt hP (by rw [← hAd]; exact hD) (by rw [← hAd]; exact hS) (⟨3, 0, S, L, f, g, (if_neg (by decide)).symm, by decide, rfl, rfl, hR, hO, Or.inr (Or.inr (Or.inl ⟨⟨h1.1, h1.2.1⟩, h1.2.2.1, h1.2.2.2, rfl, rfl⟩))⟩) dL_pair_22 hlocks
  · have hap := kX9_pair l D k L f g S hR hO x.toNat (by omega) z.toNat (by have h7 := h1.1.1; have h8 := h1.1.2; omega) y.toNat (by have h7 := h1.2.1.1; have h8 := h1.2.1.2; omega) h1.2.2.2.1 h1.2.2.2.2 n0 s.heap.size
    rw [Int.toNat_of_nonneg h1.2.2.1.1, Int.toNat_of_nonneg h1.1.1, Int.toNat_of_nonneg h1.2.1.1] at hap
    refine pc_calli (va_runV (As := [.int (zI x), .int (zI z), .int (zI y)]) (rest := []) ⟨hx, hb, hml, hown, hts⟩ hap (cwV 3 hts gL_pair_X9_pair rfl rfl rfl (by decide +kernel) ⟨Nat.le_of_ble_eq_true rfl, Nat.le_of_ble_eq_true rfl⟩) (pc_preV hC hP hn9 hD hAn hrc) rfl rfl hl.1 rfl (lv_room (Nat.le_of_ble_eq_true rfl)) dL_pair_4 ⟨Nat.le_of_ble_eq_true rfl, Nat.le_of_ble_eq_true rfl⟩) hD hS hA (fun r u H locs hu hP hD hS hz => ?_)
    obtain ⟨rfl, L2, F, g2, rfl, hg9, hc9⟩ := hu
    have hO9 : aOK (addS S x.toNat z.toNat y.toNat 0 (mxD S z y)) := hO.add h1.2.2.2.1 (by omega) (by have := (hO.2.2.2.2 z.toNat (by have h7 := h1.1.1; have h8 := h1.1.2; omega)).2.1; have h8 := h1.2.2.2.2; unfold mxD at h8 ⊢; omega) (fun h => by omega) (fun h => by omega) (fun _ _ => ⟨(by have h7 := h1.1.1; have h8 := h1.1.2; omega), (by have h7 := h1.2.1.1; have h8 := h1.2.1.2; omega)⟩) (fun h => by omega) (fun h => by omega)
    refine w_widen (k9 := 7) (n9 := 82) (by decide) (by decide) ?_
    rw [hQ]
    refine vx_ret ?_
    exact pc_iret hx hb hrt hP (by rw [← hAd]; exact hD) (by rw [← hAd]; exact hS) (⟨0, zI (sC S : Int), addS S x.toNat z.toNat y.toNat 0 (mxD S z y), L2, F, g2, (if_pos rfl).symm, by decide, rfl, hg9, hc9, hO9, Or.inr (Or.inr (Or.inr ⟨⟨h1.1, h1.2.1⟩, h1.2.2.1, h1.2.2.2.1, h1.2.2.2.2, rfl, rfl, rfl⟩))⟩) dL_pair_7 hlocks

set_option maxHeartbeats 4000000 in
set_option maxRecDepth 100000 in
theorem kL_near (l : Launch) (D : va_G) (k : Nat → ClassId) (L : List Nat) (f : Nat → va_E) (g : CG) (S : SA) (hR : cRep k L f g S) (hO : aOK S) (z : Int) (hz : -2147483648 ≤ z ∧ z < 2147483648) (y : Int) (hy : -2147483648 ≤ y ∧ y < 2147483648) (x : Int) (hx9 : -2147483648 ≤ x ∧ x < 2147483648) (hlt : l.stackTraces = false) (n0 sz : Nat) : Met l yL_near wsL_near ({ frames := 9, cells := 7, slots := 82, locals := 189 } : Room) (va_Pc [.ref (gA g 0), .int (zI z), .int (zI y), .int (zI x)] (xPre D (tyL k) n0 (va_pl L f) sz)) (va_Qi (wQ k (gA g 0) (-99999) (SpNear S z y x)) (pB D (va_pl L f) sz) (va_A (va_pl L f) sz)) 7 82 (va_A (va_pl L f) sz) := by
  refine vx_toMet (XC := (vx_X (fun _ : va_W => False) (fun _ _ _ => True) (va_A (va_pl L f) sz))) (vx_ofWH (cc := cL_near) (maxL := 5) (ret := some .int) (hh := [(0, 7, 8, 14), (0, 7, 13, 17), (0, 7, 18, 19)]) (by decide) rfl ?_) (fun E st t h => by obtain ⟨u, hu, -⟩ := h; exact hu)
  intro p e s m args below meth c s₁ B hml hv
  obtain ⟨rfl, ⟨hsz, hn9, hP, hC, hD0⟩, hX⟩ := hv
  have hK := hC.1
  have hNW := hC.2.1
  have hx := B.exec
  have hb := B.bytes
  have hrt := B.returns
  have hts := atoms_spec (ws := wsL_near) B.pre
  have hown : s.vm.findClass RL = some m.cls := findClass_of_methodNamed B.named
  have hlocks := B.notSynchronized
  have htb := vx_table (x := yL_near) (y := yL_near) (bytes := cL_near) (maxL' := 5) (ret' := some .int) (hh := [(0, 7, 8, 14), (0, 7, 13, 17), (0, 7, 18, 19)]) B (hts _ List.mem_cons_self)
  subst hsz
  obtain ⟨A, hAd⟩ : ∃ A, A = va_A (va_pl L f) s.heap.size := ⟨_, rfl⟩
  have hD := hD0.self (sz := s.heap.size)
  rw [← hAd] at hD
  have hA : ∀ q : Nat, s.heap.size ≤ q → A q := fun q h => by rw [hAd]; exact Or.inr h
  have hAn : ∀ q : Nat, A q → n0 ≤ q := fun q h => by
    rw [hAd] at h
    rcases h with ⟨k9, e9, hk9⟩ | h
    · exact hD0.2 k9 _ hk9
    · exact Nat.le_trans hn9 h
  have hS : va_S A s.heap s.heap [] := va_S.rf
  have hl := lv_entry ([.ref (gA g 0), .int (zI z), .int (zI y), .int (zI x)]) (n := 5) (Nat.le_of_ble_eq_true rfl)
  rw [lg_entry_eq]
  generalize (lg_sl ([.ref (gA g 0), .int (zI z), .int (zI y), .int (zI x)]) ++ List.replicate (5 - (lg_sl ([.ref (gA g 0), .int (zI z), .int (zI y), .int (zI x)])).length) Slot.unset).toArray = ls at hl ⊢
  have hl : lv_has ls 5 [(0, .ref (gA g 0)), (1, .int (zI z)), (2, .int (zI y)), (3, .int (zI x))] := hl
  obtain ⟨Q, hQ⟩ : ∃ Q, Q = vx_MQ below (va_Qi (wQ k (gA g 0) (-99999) (SpNear S z y x)) (pB D (va_pl L f) s.heap.size) (va_A (va_pl L f) s.heap.size)) (vx_X (fun _ : va_W => False) (fun _ _ _ => True) (va_A (va_pl L f) s.heap.size)) ([.ref (gA g 0), .int (zI z), .int (zI y), .int (zI x)] : List Value).toArray s 7 82 (va_A (va_pl L f) s.heap.size) := ⟨_, rfl⟩
  rw [← hQ]
  have hn0 := hO.1
  have hc0 := hO.2.2.2.1
  refine lv_aload_n hx hb dL_near_0 rfl (lv_at hl 0 rfl) ?_
  refine lv_iload_n hx hb dL_near_1 rfl (lv_at hl 1 rfl) ?_
  refine lv_iload_n hx hb dL_near_2 rfl (lv_at hl 2 rfl) ?_
  refine lv_iload_n hx hb dL_near_3 rfl (lv_at hl 3 rfl) ?_
  have hrc : ∃ cell : Cell, s.heap[gA g 0]? = some cell ∧ cell.vm.isStatics = false ∧ s.vm.findClass RX9 = some cell.cls := pl_recv hK hP (hR.2.1 0 (by decide)) hR.1.1 (ci := 8) (q := (RX9, TX9, 3)) rfl
  rcases (show (¬ isN S z) ∨ (isN S z ∧ ¬ isN S y) ∨ (isN S z ∧ isN S y ∧ ¬ (0 ≤ x ∧ x ≤ 24)) ∨ (isN S z ∧ isN S y ∧ (0 ≤ x ∧ x ≤ 24) ∧ (sC S = 30 ∨ 6 < mxD S z y)) ∨ (isN S z ∧ isN S y ∧ (0 ≤ x ∧ x ≤ 24) ∧ sC S < 30 ∧ mxD S z y ≤ 6) by unfold isN; omega) with h1 | h1 | h1 | h1 | h1
  · refine pz_callx (vx_runV (As := [.int (zI z), .int (zI y), .int (zI x)]) (rest := []) ⟨hx, hb, hml, hown, hts⟩ (kX9_near_x l D k L f g S hR hO z hz h1 x y hlt n0 _) (cwV 3 hts gL_near_X9_near rfl rfl rfl (by decide +kernel) ⟨Nat.le_of_ble_eq_true rfl, Nat.le_of_ble_eq_true rfl⟩) (xc_preV hC hX hP hn9 hD hS hAn hrc) rfl rfl hl.1 rfl (lv_room (Nat.le_of_ble_eq_true rfl)) dL_near_4 ⟨Nat.le_of_ble_eq_true rfl, Nat.le_of_ble_eq_true rfl⟩) hD hS hA (fun E ce q9 u H locs hu hP hD hS hcell hv9 hcl => ?_)
    obtain ⟨rfl, rfl⟩ := hu
    refine vx_catch (own := RL) (name := "java/lang/IndexOutOfBoundsException") hown [] ⟨0, 7, 8, 14⟩ [⟨0, 7, 13, 17⟩, ⟨0, 7, 18, 19⟩] htb (fun z hz => absurd hz List.not_mem_nil) (by decide) (by decide) (hts (.classLink RL 14 "java/lang/IndexOutOfBoundsException") (by decide +kernel)) (va_Nw.use rfl (hNW (.castable "java/lang/IndexOutOfBoundsException" "java/lang/IndexOutOfBoundsException") (by decide +kernel))) hcell hv9 hcl ?_
    refine lv_astore (lv' := [(4, .ref q9), (0, .ref (gA g 0)), (1, .int (zI z)), (2, .int (zI y)), (3, .int (zI x))]) hx hb dL_near_8 hl (by decide) rfl (fun ls hl => ?_)
    refine lv_ldc (v := -99999) hx hb hown (hts (.constant RL 16 (-99999)) (by decide +kernel)) dL_near_10 ?_
    refine w_widen (k9 := 7) (n9 := 82) (by decide) (by decide) ?_
    rw [hQ]
    refine vx_ret ?_
    exact pc_iret hx hb hrt hP (by rw [← hAd]; exact hD) (by rw [← hAd]; exact hS) (⟨1, 0, S, L, f, g, (if_neg (by decide)).symm, by decide, rfl, rfl, hR, hO, Or.inl ⟨fun q => h1 q.1, rfl, rfl⟩⟩) dL_near_12 hlocks
  · have hap := kX9_near_x2 l D k L f g S hR hO z.toNat (by have h7 := h1.1.1; have h8 := h1.1.2; omega) y hy h1.2 x hlt n0 s.heap.size
    rw [Int.toNat_of_nonneg h1.1.1] at hap
    refine pz_callx (vx_runV (As := [.int (zI z), .int (zI y), .int (zI x)]) (rest := []) ⟨hx, hb, hml, hown, hts⟩ hap (cwV 3 hts gL_near_X9_near rfl rfl rfl (by decide +kernel) ⟨Nat.le_of_ble_eq_true rfl, Nat.le_of_ble_eq_true rfl⟩) (xc_preV hC hX hP hn9 hD hS hAn hrc) rfl rfl hl.1 rfl (lv_room (Nat.le_of_ble_eq_true rfl)) dL_near_4 ⟨Nat.le_of_ble_eq_true rfl, Nat.le_of_ble_eq_true rfl⟩) hD hS hA (fun E ce q9 u H locs hu hP hD hS hcell hv9 hcl => ?_)
    obtain ⟨rfl, rfl⟩ := hu
    refine vx_catch (own := RL) (name := "java/lang/IndexOutOfBoundsException") hown [] ⟨0, 7, 8, 14⟩ [⟨0, 7, 13, 17⟩, ⟨0, 7, 18, 19⟩] htb (fun z hz => absurd hz List.not_mem_nil) (by decide) (by decide) (hts (.classLink RL 14 "java/lang/IndexOutOfBoundsException") (by decide +kernel)) (va_Nw.use rfl (hNW (.castable "java/lang/IndexOutOfBoundsException" "java/lang/IndexOutOfBoundsException") (by decide +kernel))) hcell hv9 hcl ?_
    refine lv_astore (lv' := [(4, .ref q9), (0, .ref (gA g 0)), (1, .int (zI z)), (2, .int (zI y)), (3, .int (zI x))]) hx hb dL_near_8 hl (by decide) rfl (fun ls hl => ?_)
    refine lv_ldc (v := -99999) hx hb hown (hts (.constant RL 16 (-99999)) (by decide +kernel)) dL_near_10 ?_
    refine w_widen (k9 := 7) (n9 := 82) (by decide) (by decide) ?_
    rw [hQ]
    refine vx_ret ?_
    exact pc_iret hx hb hrt hP (by rw [← hAd]; exact hD) (by rw [← hAd]; exact hS) (⟨1, 0, S, L, f, g, (if_neg (by decide)).symm, by decide, rfl, rfl, hR, hO, Or.inl ⟨fun q => h1.2 q.2, rfl, rfl⟩⟩) dL_near_12 hlocks
  · have hap := kX9_near_x3 l D k L f g S hR hO z.toNat (by have h7 := h1.1.1; have h8 := h1.1.2; omega) y.toNat (by have h7 := h1.2.1.1; have h8 := h1.2.1.2; omega) x hx9 h1.2.2 hlt n0 s.heap.size
    rw [Int.toNat_of_nonneg h1.1.1, Int.toNat_of_nonneg h1.2.1.1] at hap
    refine pz_callx (vx_runV (As := [.int (zI z), .int (zI y), .int (zI x)]) (rest := []) ⟨hx, hb, hml, hown, hts⟩ hap (cwV 3 hts gL_near_X9_near rfl rfl rfl (by decide +kernel) ⟨Nat.le_of_ble_eq_true rfl, Nat.le_of_ble_eq_true rfl⟩) (xc_preV hC hX hP hn9 hD hS hAn hrc) rfl rfl hl.1 rfl (lv_room (Nat.le_of_ble_eq_true rfl)) dL_near_4 ⟨Nat.le_of_ble_eq_true rfl, Nat.le_of_ble_eq_true rfl⟩) hD hS hA (fun E ce q9 u H locs hu hP hD hS hcell hv9 hcl => ?_)
    obtain ⟨rfl, rfl⟩ := hu
    refine vx_catch (own := RL) (name := "java/lang/IllegalArgumentException") hown [⟨0, 7, 8, 14⟩] ⟨0, 7, 13, 17⟩ [⟨0, 7, 18, 19⟩] htb (List.forall_mem_cons.mpr ⟨Or.inr ⟨by decide, _, hts (.classLink RL 14 "java/lang/IndexOutOfBoundsException") (by decide +kernel), hX.2.2.1 ("java/lang/IllegalArgumentException", "java/lang/IndexOutOfBoundsException") (by decide)⟩, fun z hz => absurd hz List.not_mem_nil⟩) (by decide) (by decide) (hts (.classLink RL 17 "java/lang/IllegalArgumentException") (by decide +kernel)) (va_Nw.use rfl (hNW (.castable "java/lang/IllegalArgumentException" "java/lang/IllegalArgumentException") (by decide +kernel))) hcell hv9 hcl ?_
    refine lv_astore (lv' := [(4, .ref q9), (0, .ref (gA g 0)), (1, .int (zI z)), (2, .int (zI y)), (3, .int (zI x))]) hx hb dL_near_13 hl (by decide) rfl (fun ls hl => ?_)
    refine lv_ldc (v := -99999) hx hb hown (hts (.constant RL 16 (-99999)) (by decide +kernel)) dL_near_15 ?_
    refine w_widen (k9 := 7) (n9 := 82) (by decide) (by decide) ?_
    rw [hQ]
    refine vx_ret ?_
    exact pc_iret hx hb hrt hP (by rw [← hAd]; exact hD) (by rw [← hAd]; exact hS) (⟨2, 0, S, L, f, g, (if_neg (by decide)).symm, by decide, rfl, rfl, hR, hO, Or.inr (Or.inl ⟨⟨h1.1, h1.2.1⟩, h1.2.2, rfl, rfl⟩)⟩) dL_near_17 hlocks
  · have hap := kX9_near_x4 l D k L f g S hR hO z.toNat (by have h7 := h1.1.1; have h8 := h1.1.2; omega) y.toNat (by have h7 := h1.2.1.1; have h8 := h1.2.1.2; omega) x h1.2.2.1 (h1.2.2.2.imp (fun q => by omega) id) hlt n0 s.heap.size
    rw [Int.toNat_of_nonneg h1.1.1, Int.toNat_of_nonneg h1.2.1.1] at hap
    refine pz_callx (vx_runV (As := [.int (zI z), .int (zI y), .int (zI x)]) (rest := []) ⟨hx, hb, hml, hown, hts⟩ hap (cwV 3 hts gL_near_X9_near rfl rfl rfl (by decide +kernel) ⟨Nat.le_of_ble_eq_true rfl, Nat.le_of_ble_eq_true rfl⟩) (xc_preV hC hX hP hn9 hD hS hAn hrc) rfl rfl hl.1 rfl (lv_room (Nat.le_of_ble_eq_true rfl)) dL_near_4 ⟨Nat.le_of_ble_eq_true rfl, Nat.le_of_ble_eq_true rfl⟩) hD hS hA (fun E ce q9 u H locs hu hP hD hS hcell hv9 hcl => ?_)
    obtain ⟨rfl, rfl⟩ := hu
    refine vx_catch (own := RL) (name := "java/lang/IllegalStateException") hown [⟨0, 7, 8, 14⟩, ⟨0, 7, 13, 17⟩] ⟨0, 7, 18, 19⟩ [] htb (List.forall_mem_cons.mpr ⟨Or.inr ⟨by decide, _, hts (.classLink RL 14 "java/lang/IndexOutOfBoundsException") (by decide +kernel), hX.2.2.1 ("java/lang/IllegalStateException", "java/lang/IndexOutOfBoundsException") (by decide)⟩, List.forall_mem_cons.mpr ⟨Or.inr ⟨by decide, _, hts (.classLink RL 17 "java/lang/IllegalArgumentException") (by decide +kernel), hX.2.2.1 ("java/lang/IllegalStateException", "java/lang/IllegalArgumentException") (by decide)⟩, fun z hz => absurd hz List.not_mem_nil⟩⟩) (by decide) (by decide) (hts (.classLink RL 19 "java/lang/IllegalStateException") (by decide +kernel)) (va_Nw.use rfl (hNW (.castable "java/lang/IllegalStateException" "java/lang/IllegalStateException") (by decide +kernel))) hcell hv9 hcl ?_
    refine lv_astore (lv' := [(4, .ref q9), (0, .ref (gA g 0)), (1, .int (zI z)), (2, .int (zI y)), (3, .int (zI x))]) hx hb dL_near_18 hl (by decide) rfl (fun ls hl => ?_)
    refine lv_ldc (v := -99999) hx hb hown (hts (.constant RL 16 (-99999)) (by decide +kernel)) dL_near_20 ?_
    refine w_widen (k9 := 7) (n9 := 82) (by decide) (by decide) ?_
    rw [hQ]
    refine vx_ret ?_
    exact pc_iret hx hb hrt hP (by rw [← hAd]; exact hD) (by rw [← hAd]; exact hS) (⟨3, 0, S, L, f, g, (if_neg (by decide)).symm, by decide, rfl, rfl, hR, hO, Or.inr (Or.inr (Or.inl ⟨⟨h1.1, h1.2.1⟩, h1.2.2.1, h1.2.2.2, rfl, rfl⟩))⟩) dL_near_22 hlocks
  · have hap := kX9_near l D k L f g S hR hO z.toNat (by have h7 := h1.1.1; have h8 := h1.1.2; omega) y.toNat (by have h7 := h1.2.1.1; have h8 := h1.2.1.2; omega) x h1.2.2.1 h1.2.2.2.1 h1.2.2.2.2 n0 s.heap.size
    rw [Int.toNat_of_nonneg h1.1.1, Int.toNat_of_nonneg h1.2.1.1] at hap
    refine pc_calli (va_runV (As := [.int (zI z), .int (zI y), .int (zI x)]) (rest := []) ⟨hx, hb, hml, hown, hts⟩ hap (cwV 3 hts gL_near_X9_near rfl rfl rfl (by decide +kernel) ⟨Nat.le_of_ble_eq_true rfl, Nat.le_of_ble_eq_true rfl⟩) (pc_preV hC hP hn9 hD hAn hrc) rfl rfl hl.1 rfl (lv_room (Nat.le_of_ble_eq_true rfl)) dL_near_4 ⟨Nat.le_of_ble_eq_true rfl, Nat.le_of_ble_eq_true rfl⟩) hD hS hA (fun r u H locs hu hP hD hS hz => ?_)
    obtain ⟨rfl, L2, F, g2, rfl, hg9, hc9⟩ := hu
    have hO9 : aOK (addS S 10 z.toNat y.toNat x (mxD S z y)) := hO.add h1.2.2.2.1 (by omega) (by have := (hO.2.2.2.2 z.toNat (by have h7 := h1.1.1; have h8 := h1.1.2; omega)).2.1; have h8 := h1.2.2.2.2; unfold mxD at h8 ⊢; omega) (fun h => by omega) (fun h => by omega) (fun _ _ => ⟨(by have h7 := h1.1.1; have h8 := h1.1.2; omega), (by have h7 := h1.2.1.1; have h8 := h1.2.1.2; omega)⟩) (fun _ => h1.2.2.1) (fun h => by omega)
    refine w_widen (k9 := 7) (n9 := 82) (by decide) (by decide) ?_
    rw [hQ]
    refine vx_ret ?_
    exact pc_iret hx hb hrt hP (by rw [← hAd]; exact hD) (by rw [← hAd]; exact hS) (⟨0, zI (sC S : Int), addS S 10 z.toNat y.toNat x (mxD S z y), L2, F, g2, (if_pos rfl).symm, by decide, rfl, hg9, hc9, hO9, Or.inr (Or.inr (Or.inr ⟨⟨h1.1, h1.2.1⟩, h1.2.2.1, h1.2.2.2.1, h1.2.2.2.2, rfl, rfl, rfl⟩))⟩) dL_near_7 hlocks

set_option maxHeartbeats 4000000 in
set_option maxRecDepth 100000 in
theorem kL_only (l : Launch) (D : va_G) (k : Nat → ClassId) (L : List Nat) (f : Nat → va_E) (g : CG) (S : SA) (hR : cRep k L f g S) (hO : aOK S) (z : Int) (hz : -2147483648 ≤ z ∧ z < 2147483648) (b9 : Bool) (hlt : l.stackTraces = false) (n0 sz : Nat) : Met l yL_only wsL_only ({ frames := 9, cells := 7, slots := 82, locals := 189 } : Room) (va_Pc [.ref (gA g 0), .int (zI z), .int (bI b9)] (xPre D (tyL k) n0 (va_pl L f) sz)) (va_Qi (wQ k (gA g 0) (-99999) (SpOnly S z b9)) (pB D (va_pl L f) sz) (va_A (va_pl L f) sz)) 7 82 (va_A (va_pl L f) sz) := by
  refine vx_toMet (XC := (vx_X (fun _ : va_W => False) (fun _ _ _ => True) (va_A (va_pl L f) sz))) (vx_ofWH (cc := cL_only) (maxL := 4) (ret := some .int) (hh := [(0, 6, 7, 14), (0, 6, 11, 19)]) (by decide) rfl ?_) (fun E st t h => by obtain ⟨u, hu, -⟩ := h; exact hu)
  intro p e s m args below meth c s₁ B hml hv
  obtain ⟨rfl, ⟨hsz, hn9, hP, hC, hD0⟩, hX⟩ := hv
  have hK := hC.1
  have hNW := hC.2.1
  have hx := B.exec
  have hb := B.bytes
  have hrt := B.returns
  have hts := atoms_spec (ws := wsL_only) B.pre
  have hown : s.vm.findClass RL = some m.cls := findClass_of_methodNamed B.named
  have hlocks := B.notSynchronized
  have htb := vx_table (x := yL_only) (y := yL_only) (bytes := cL_only) (maxL' := 4) (ret' := some .int) (hh := [(0, 6, 7, 14), (0, 6, 11, 19)]) B (hts _ List.mem_cons_self)
  subst hsz
  obtain ⟨A, hAd⟩ : ∃ A, A = va_A (va_pl L f) s.heap.size := ⟨_, rfl⟩
  have hD := hD0.self (sz := s.heap.size)
  rw [← hAd] at hD
  have hA : ∀ q : Nat, s.heap.size ≤ q → A q := fun q h => by rw [hAd]; exact Or.inr h
  have hAn : ∀ q : Nat, A q → n0 ≤ q := fun q h => by
    rw [hAd] at h
    rcases h with ⟨k9, e9, hk9⟩ | h
    · exact hD0.2 k9 _ hk9
    · exact Nat.le_trans hn9 h
  have hS : va_S A s.heap s.heap [] := va_S.rf
  have hl := lv_entry ([.ref (gA g 0), .int (zI z), .int (bI b9)]) (n := 4) (Nat.le_of_ble_eq_true rfl)
  rw [lg_entry_eq]
  generalize (lg_sl ([.ref (gA g 0), .int (zI z), .int (bI b9)]) ++ List.replicate (4 - (lg_sl ([.ref (gA g 0), .int (zI z), .int (bI b9)])).length) Slot.unset).toArray = ls at hl ⊢
  have hl : lv_has ls 4 [(0, .ref (gA g 0)), (1, .int (zI z)), (2, .int (bI b9))] := hl
  obtain ⟨Q, hQ⟩ : ∃ Q, Q = vx_MQ below (va_Qi (wQ k (gA g 0) (-99999) (SpOnly S z b9)) (pB D (va_pl L f) s.heap.size) (va_A (va_pl L f) s.heap.size)) (vx_X (fun _ : va_W => False) (fun _ _ _ => True) (va_A (va_pl L f) s.heap.size)) ([.ref (gA g 0), .int (zI z), .int (bI b9)] : List Value).toArray s 7 82 (va_A (va_pl L f) s.heap.size) := ⟨_, rfl⟩
  rw [← hQ]
  have hn0 := hO.1
  have hc0 := hO.2.2.2.1
  refine lv_aload_n hx hb dL_only_0 rfl (lv_at hl 0 rfl) ?_
  refine lv_iload_n hx hb dL_only_1 rfl (lv_at hl 1 rfl) ?_
  refine lv_iload_n hx hb dL_only_2 rfl (lv_at hl 2 rfl) ?_
  have hrc : ∃ cell : Cell, s.heap[gA g 0]? = some cell ∧ cell.vm.isStatics = false ∧ s.vm.findClass RX9 = some cell.cls := pl_recv hK hP (hR.2.1 0 (by decide)) hR.1.1 (ci := 8) (q := (RX9, TX9, 3)) rfl
  rcases (show (¬ isN S z) ∨ (isN S z ∧ (sC S = 30 ∨ 6 < mxD S z z)) ∨ (isN S z ∧ sC S < 30 ∧ mxD S z z ≤ 6) by unfold isN; omega) with h1 | h1 | h1
  · refine pz_callx (vx_runV (As := [.int (zI z), .int (bI b9)]) (rest := []) ⟨hx, hb, hml, hown, hts⟩ (kX9_only_x l D k L f g S hR hO z hz h1 b9 hlt n0 _) (cwV 2 hts gL_only_X9_only rfl rfl rfl (by decide +kernel) ⟨Nat.le_of_ble_eq_true rfl, Nat.le_of_ble_eq_true rfl⟩) (xc_preV hC hX hP hn9 hD hS hAn hrc) rfl rfl hl.1 rfl (lv_room (Nat.le_of_ble_eq_true rfl)) dL_only_3 ⟨Nat.le_of_ble_eq_true rfl, Nat.le_of_ble_eq_true rfl⟩) hD hS hA (fun E ce q9 u H locs hu hP hD hS hcell hv9 hcl => ?_)
    obtain ⟨rfl, rfl⟩ := hu
    refine vx_catch (own := RL) (name := "java/lang/IndexOutOfBoundsException") hown [] ⟨0, 6, 7, 14⟩ [⟨0, 6, 11, 19⟩] htb (fun z hz => absurd hz List.not_mem_nil) (by decide) (by decide) (hts (.classLink RL 14 "java/lang/IndexOutOfBoundsException") (by decide +kernel)) (va_Nw.use rfl (hNW (.castable "java/lang/IndexOutOfBoundsException" "java/lang/IndexOutOfBoundsException") (by decide +kernel))) hcell hv9 hcl ?_
    refine lv_astore_n (lv' := [(3, .ref q9), (0, .ref (gA g 0)), (1, .int (zI z)), (2, .int (bI b9))]) hx hb dL_only_7 rfl hl (by decide) rfl (fun ls hl => ?_)
    refine lv_ldc (v := -99999) hx hb hown (hts (.constant RL 16 (-99999)) (by decide +kernel)) dL_only_8 ?_
    refine w_widen (k9 := 7) (n9 := 82) (by decide) (by decide) ?_
    rw [hQ]
    refine vx_ret ?_
    exact pc_iret hx hb hrt hP (by rw [← hAd]; exact hD) (by rw [← hAd]; exact hS) (⟨1, 0, S, L, f, g, (if_neg (by decide)).symm, by decide, rfl, rfl, hR, hO, Or.inl ⟨h1, rfl, rfl⟩⟩) dL_only_10 hlocks
  · have hap := kX9_only_x2 l D k L f g S hR hO z.toNat (by have h7 := h1.1.1; have h8 := h1.1.2; omega) b9 (h1.2.imp (fun q => by omega) id) hlt n0 s.heap.size
    rw [Int.toNat_of_nonneg h1.1.1] at hap
    refine pz_callx (vx_runV (As := [.int (zI z), .int (bI b9)]) (rest := []) ⟨hx, hb, hml, hown, hts⟩ hap (cwV 2 hts gL_only_X9_only rfl rfl rfl (by decide +kernel) ⟨Nat.le_of_ble_eq_true rfl, Nat.le_of_ble_eq_true rfl⟩) (xc_preV hC hX hP hn9 hD hS hAn hrc) rfl rfl hl.1 rfl (lv_room (Nat.le_of_ble_eq_true rfl)) dL_only_3 ⟨Nat.le_of_ble_eq_true rfl, Nat.le_of_ble_eq_true rfl⟩) hD hS hA (fun E ce q9 u H locs hu hP hD hS hcell hv9 hcl => ?_)
    obtain ⟨rfl, rfl⟩ := hu
    refine vx_catch (own := RL) (name := "java/lang/IllegalStateException") hown [⟨0, 6, 7, 14⟩] ⟨0, 6, 11, 19⟩ [] htb (List.forall_mem_cons.mpr ⟨Or.inr ⟨by decide, _, hts (.classLink RL 14 "java/lang/IndexOutOfBoundsException") (by decide +kernel), hX.2.2.1 ("java/lang/IllegalStateException", "java/lang/IndexOutOfBoundsException") (by decide)⟩, fun z hz => absurd hz List.not_mem_nil⟩) (by decide) (by decide) (hts (.classLink RL 19 "java/lang/IllegalStateException") (by decide +kernel)) (va_Nw.use rfl (hNW (.castable "java/lang/IllegalStateException" "java/lang/IllegalStateException") (by decide +kernel))) hcell hv9 hcl ?_
    refine lv_astore_n (lv' := [(3, .ref q9), (0, .ref (gA g 0)), (1, .int (zI z)), (2, .int (bI b9))]) hx hb dL_only_11 rfl hl (by decide) rfl (fun ls hl => ?_)
    refine lv_ldc (v := -99999) hx hb hown (hts (.constant RL 16 (-99999)) (by decide +kernel)) dL_only_12 ?_
    refine w_widen (k9 := 7) (n9 := 82) (by decide) (by decide) ?_
    rw [hQ]
    refine vx_ret ?_
    exact pc_iret hx hb hrt hP (by rw [← hAd]; exact hD) (by rw [← hAd]; exact hS) (⟨2, 0, S, L, f, g, (if_neg (by decide)).symm, by decide, rfl, rfl, hR, hO, Or.inr (Or.inl ⟨h1.1, h1.2, rfl, rfl⟩)⟩) dL_only_14 hlocks
  · have hap := kX9_only l D k L f g S hR hO z.toNat (by have h7 := h1.1.1; have h8 := h1.1.2; omega) b9 h1.2.1 h1.2.2 n0 s.heap.size
    rw [Int.toNat_of_nonneg h1.1.1] at hap
    refine pc_calli (va_runV (As := [.int (zI z), .int (bI b9)]) (rest := []) ⟨hx, hb, hml, hown, hts⟩ hap (cwV 2 hts gL_only_X9_only rfl rfl rfl (by decide +kernel) ⟨Nat.le_of_ble_eq_true rfl, Nat.le_of_ble_eq_true rfl⟩) (pc_preV hC hP hn9 hD hAn hrc) rfl rfl hl.1 rfl (lv_room (Nat.le_of_ble_eq_true rfl)) dL_only_3 ⟨Nat.le_of_ble_eq_true rfl, Nat.le_of_ble_eq_true rfl⟩) hD hS hA (fun r u H locs hu hP hD hS hz => ?_)
    obtain ⟨rfl, L2, F, g2, rfl, hg9, hc9⟩ := hu
    have hO9 : aOK (addS S (if b9 then 14 else 13) z.toNat z.toNat 0 (mxD S z z)) := hO.add h1.2.1 (by cases b9 <;> decide) (by have := (hO.2.2.2.2 z.toNat (by have h7 := h1.1.1; have h8 := h1.1.2; omega)).2.1; have h8 := h1.2.2; unfold mxD at h8 ⊢; omega) (fun h => by cases b9 <;> exact absurd h (by decide)) (fun h => by cases b9 <;> exact absurd h (by decide)) (fun _ _ => ⟨(by have h7 := h1.1.1; have h8 := h1.1.2; omega), (by have h7 := h1.1.1; have h8 := h1.1.2; omega)⟩) (fun h => by cases b9 <;> exact absurd h (by decide)) (fun _ => rfl)
    refine w_widen (k9 := 7) (n9 := 82) (by decide) (by decide) ?_
    rw [hQ]
    refine vx_ret ?_
    exact pc_iret hx hb hrt hP (by rw [← hAd]; exact hD) (by rw [← hAd]; exact hS) (⟨0, zI (sC S : Int), addS S (if b9 then 14 else 13) z.toNat z.toNat 0 (mxD S z z), L2, F, g2, (if_pos rfl).symm, by decide, rfl, hg9, hc9, hO9, Or.inr (Or.inr ⟨h1.1, h1.2.1, h1.2.2, rfl, rfl, rfl⟩)⟩) dL_only_6 hlocks

set_option maxHeartbeats 4000000 in
set_option maxRecDepth 100000 in
theorem kL_regionAt (l : Launch) (D : va_G) (k : Nat → ClassId) (L : List Nat) (f : Nat → va_E) (g : CG) (S : SA) (hR : cRep k L f g S) (hO : aOK S) (z : Int) (hz : -2147483648 ≤ z ∧ z < 2147483648) (y : Int) (hy : -2147483648 ≤ y ∧ y < 2147483648) (hlt : l.stackTraces = false) (n0 sz : Nat) : Met l yL_regionAt wsL_regionAt ({ frames := 9, cells := 7, slots := 82, locals := 189 } : Room) (va_Pc [.ref (gA g 0), .int (zI z), .int (zI y)] (xPre D (tyL k) n0 (va_pl L f) sz)) (va_Qi (wQL k L (gA g 0) (zI (-1)) (SpRegionAt S z y)) (pB D (va_pl L f) sz) (va_A (va_pl L f) sz)) 7 82 (va_A (va_pl L f) sz) := by
  refine vx_toMet (XC := (vx_X (fun _ : va_W => False) (fun _ _ _ => True) (va_A (va_pl L f) sz))) (vx_ofWH (cc := cL_regionAt) (maxL := 4) (ret := some .int) (hh := [(0, 6, 7, 14)]) (by decide) rfl ?_) (fun E st t h => by obtain ⟨u, hu, -⟩ := h; exact hu)
  intro p e s m args below meth c s₁ B hml hv
  obtain ⟨rfl, ⟨hsz, hn9, hP, hC, hD0⟩, hX⟩ := hv
  have hK := hC.1
  have hNW := hC.2.1
  have hx := B.exec
  have hb := B.bytes
  have hrt := B.returns
  have hts := atoms_spec (ws := wsL_regionAt) B.pre
  have hown : s.vm.findClass RL = some m.cls := findClass_of_methodNamed B.named
  have hlocks := B.notSynchronized
  have htb := vx_table (x := yL_regionAt) (y := yL_regionAt) (bytes := cL_regionAt) (maxL' := 4) (ret' := some .int) (hh := [(0, 6, 7, 14)]) B (hts _ List.mem_cons_self)
  subst hsz
  obtain ⟨A, hAd⟩ : ∃ A, A = va_A (va_pl L f) s.heap.size := ⟨_, rfl⟩
  have hD := hD0.self (sz := s.heap.size)
  rw [← hAd] at hD
  have hA : ∀ q : Nat, s.heap.size ≤ q → A q := fun q h => by rw [hAd]; exact Or.inr h
  have hAn : ∀ q : Nat, A q → n0 ≤ q := fun q h => by
    rw [hAd] at h
    rcases h with ⟨k9, e9, hk9⟩ | h
    · exact hD0.2 k9 _ hk9
    · exact Nat.le_trans hn9 h
  have hS : va_S A s.heap s.heap [] := va_S.rf
  have hl := lv_entry ([.ref (gA g 0), .int (zI z), .int (zI y)]) (n := 4) (Nat.le_of_ble_eq_true rfl)
  rw [lg_entry_eq]
  generalize (lg_sl ([.ref (gA g 0), .int (zI z), .int (zI y)]) ++ List.replicate (4 - (lg_sl ([.ref (gA g 0), .int (zI z), .int (zI y)])).length) Slot.unset).toArray = ls at hl ⊢
  have hl : lv_has ls 4 [(0, .ref (gA g 0)), (1, .int (zI z)), (2, .int (zI y))] := hl
  obtain ⟨Q, hQ⟩ : ∃ Q, Q = vx_MQ below (va_Qi (wQL k L (gA g 0) (zI (-1)) (SpRegionAt S z y)) (pB D (va_pl L f) s.heap.size) (va_A (va_pl L f) s.heap.size)) (vx_X (fun _ : va_W => False) (fun _ _ _ => True) (va_A (va_pl L f) s.heap.size)) ([.ref (gA g 0), .int (zI z), .int (zI y)] : List Value).toArray s 7 82 (va_A (va_pl L f) s.heap.size) := ⟨_, rfl⟩
  rw [← hQ]
  have hn0 := hO.1
  have hc0 := hO.2.2.2.1
  refine lv_aload_n hx hb dL_regionAt_0 rfl (lv_at hl 0 rfl) ?_
  refine lv_iload_n hx hb dL_regionAt_1 rfl (lv_at hl 1 rfl) ?_
  refine lv_iload_n hx hb dL_regionAt_2 rfl (lv_at hl 2 rfl) ?_
  have hrc : ∃ cell : Cell, s.heap[gA g 0]? = some cell ∧ cell.vm.isStatics = false ∧ s.vm.findClass RX9 = some cell.cls := pl_recv hK hP (hR.2.1 0 (by decide)) hR.1.1 (ci := 8) (q := (RX9, TX9, 3)) rfl
  rcases (show (¬ isN S z) ∨ (isN S z ∧ ¬ (0 ≤ y ∧ y < ((sizeR (gatN S (gD g z.toNat) (gR g 2) 30 z.toNat) : Nat) : Int))) ∨ (isN S z ∧ (0 ≤ y ∧ y < ((sizeR (gatN S (gD g z.toNat) (gR g 2) 30 z.toNat) : Nat) : Int))) by unfold isN; omega) with h1 | h1 | h1
  · refine pz_callx (vx_runV (As := [.int (zI z), .int (zI y)]) (rest := []) ⟨hx, hb, hml, hown, hts⟩ (kX9_regionAt_x l D k L f g S hR hO z hz h1 y hlt n0 _) (cwV 2 hts gL_regionAt_X9_regionAt rfl rfl rfl (by decide +kernel) ⟨Nat.le_of_ble_eq_true rfl, Nat.le_of_ble_eq_true rfl⟩) (xc_preV hC hX hP hn9 hD hS hAn hrc) rfl rfl hl.1 rfl (lv_room (Nat.le_of_ble_eq_true rfl)) dL_regionAt_3 ⟨Nat.le_of_ble_eq_true rfl, Nat.le_of_ble_eq_true rfl⟩) hD hS hA (fun E ce q9 u H locs hu hP hD hS hcell hv9 hcl => ?_)
    obtain ⟨rfl, rfl⟩ := hu
    refine vx_catch (own := RL) (name := "java/lang/IndexOutOfBoundsException") hown [] ⟨0, 6, 7, 14⟩ [] htb (fun z hz => absurd hz List.not_mem_nil) (by decide) (by decide) (hts (.classLink RL 14 "java/lang/IndexOutOfBoundsException") (by decide +kernel)) (va_Nw.use rfl (hNW (.castable "java/lang/IndexOutOfBoundsException" "java/lang/IndexOutOfBoundsException") (by decide +kernel))) hcell hv9 hcl ?_
    refine lv_astore_n (lv' := [(3, .ref q9), (0, .ref (gA g 0)), (1, .int (zI z)), (2, .int (zI y))]) hx hb dL_regionAt_7 rfl hl (by decide) rfl (fun ls hl => ?_)
    refine zr_const hx hb dL_regionAt_8 ?_
    refine w_widen (k9 := 7) (n9 := 82) (by decide) (by decide) ?_
    rw [hQ]
    refine vx_ret ?_
    exact pc_iret hx hb hrt hP (by rw [← hAd]; exact hD) (by rw [← hAd]; exact hS) (⟨1, 0, S, f, g, (if_neg (by decide)).symm, by decide, rfl, rfl, hR, hO, Or.inl ⟨h1, rfl, rfl⟩⟩) dL_regionAt_9 hlocks
  · have hap := kX9_regionAt_x2 l D k L f g S hR hO z.toNat (by have h7 := h1.1.1; have h8 := h1.1.2; omega) y hy (lin_no (gat_rows hR hO (by have h7 := h1.1.1; have h8 := h1.1.2; omega)) (sem24 hO (by have h7 := h1.1.1; have h8 := h1.1.2; omega)) h1.2) hlt n0 s.heap.size
    rw [Int.toNat_of_nonneg h1.1.1] at hap
    refine pz_callx (vx_runV (As := [.int (zI z), .int (zI y)]) (rest := []) ⟨hx, hb, hml, hown, hts⟩ hap (cwV 2 hts gL_regionAt_X9_regionAt rfl rfl rfl (by decide +kernel) ⟨Nat.le_of_ble_eq_true rfl, Nat.le_of_ble_eq_true rfl⟩) (xc_preV hC hX hP hn9 hD hS hAn hrc) rfl rfl hl.1 rfl (lv_room (Nat.le_of_ble_eq_true rfl)) dL_regionAt_3 ⟨Nat.le_of_ble_eq_true rfl, Nat.le_of_ble_eq_true rfl⟩) hD hS hA (fun E ce q9 u H locs hu hP hD hS hcell hv9 hcl => ?_)
    obtain ⟨rfl, F, rfl, hc9⟩ := hu
    refine vx_catch (own := RL) (name := "java/lang/IndexOutOfBoundsException") hown [] ⟨0, 6, 7, 14⟩ [] htb (fun z hz => absurd hz List.not_mem_nil) (by decide) (by decide) (hts (.classLink RL 14 "java/lang/IndexOutOfBoundsException") (by decide +kernel)) (va_Nw.use rfl (hNW (.castable "java/lang/IndexOutOfBoundsException" "java/lang/IndexOutOfBoundsException") (by decide +kernel))) hcell hv9 hcl ?_
    refine lv_astore_n (lv' := [(3, .ref q9), (0, .ref (gA g 0)), (1, .int (zI z)), (2, .int (zI y))]) hx hb dL_regionAt_7 rfl hl (by decide) rfl (fun ls hl => ?_)
    refine zr_const hx hb dL_regionAt_8 ?_
    refine w_widen (k9 := 7) (n9 := 82) (by decide) (by decide) ?_
    rw [hQ]
    refine vx_ret ?_
    exact pc_iret hx hb hrt hP (by rw [← hAd]; exact hD) (by rw [← hAd]; exact hS) (⟨1, 0, S, F, (setRw g 2 (gatN S (gD g z.toNat) (gR g 2) 30)), (if_neg (by decide)).symm, by decide, rfl, rfl, hc9, hO, Or.inr (Or.inl ⟨h1.1, rfl, rfl, (gatN S (gD g z.toNat) (gR g 2) 30 z.toNat), (gat_rows hR hO (by have h7 := h1.1.1; have h8 := h1.1.2; omega)), h1.2⟩)⟩) dL_regionAt_9 hlocks
  · obtain ⟨ya, yb, ha, hb9, hq2, hq3⟩ := lin_kth (gat_rows hR hO (by have h7 := h1.1.1; have h8 := h1.1.2; omega)) (sem24 hO (by have h7 := h1.1.1; have h8 := h1.1.2; omega)) h1.2
    have hap := kX9_regionAt l D k L f g S hR hO z.toNat (by have h7 := h1.1.1; have h8 := h1.1.2; omega) y hy ya yb ha hb9 hq2 hq3 n0 s.heap.size
    rw [Int.toNat_of_nonneg h1.1.1] at hap
    refine pc_calli (va_runV (As := [.int (zI z), .int (zI y)]) (rest := []) ⟨hx, hb, hml, hown, hts⟩ hap (cwV 2 hts gL_regionAt_X9_regionAt rfl rfl rfl (by decide +kernel) ⟨Nat.le_of_ble_eq_true rfl, Nat.le_of_ble_eq_true rfl⟩) (pc_preV hC hP hn9 hD hAn hrc) rfl rfl hl.1 rfl (lv_room (Nat.le_of_ble_eq_true rfl)) dL_regionAt_3 ⟨Nat.le_of_ble_eq_true rfl, Nat.le_of_ble_eq_true rfl⟩) hD hS hA (fun r u H locs hu hP hD hS hz => ?_)
    obtain ⟨rfl, F, rfl, hc9⟩ := hu
    refine w_widen (k9 := 7) (n9 := 82) (by decide) (by decide) ?_
    rw [hQ]
    refine vx_ret ?_
    exact pc_iret hx hb hrt hP (by rw [← hAd]; exact hD) (by rw [← hAd]; exact hS) (⟨0, zI (100 * (ya : Int) + (yb : Int)), S, F, (setRw g 2 (gatN S (gD g z.toNat) (gR g 2) 30)), (if_pos rfl).symm, by decide, rfl, rfl, hc9, hO, Or.inr (Or.inr ⟨h1.1, rfl, rfl, (gatN S (gD g z.toNat) (gR g 2) 30 z.toNat), ya, yb, (gat_rows hR hO (by have h7 := h1.1.1; have h8 := h1.1.2; omega)), ha, hb9, hq2, hq3, rfl⟩)⟩) dL_regionAt_6 hlocks
