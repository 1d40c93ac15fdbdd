set_option maxHeartbeats 4000000 in
set_option maxRecDepth 100000 in
theorem kX10_countRegions (l : Launch) (D : va_G) (k : Nat → ClassId) (L : List Nat) (f : Nat → va_E) (a : Nat → Nat) (tw n cn : Int) (A1 A2 A3 A4 A5 A6 A7 A8 A9 A10 : Nat → Int32) (hM : mRep k L f a tw n cn A1 A2 A3 A4 A5 A6 A7 A8 A9 A10) (hMC : 0 ≤ cn ∧ cn ≤ 30) (hMT : 0 ≤ tw ∧ tw ≤ 3) (hMN : 0 ≤ n ∧ n ≤ 24) (i : Nat) (hi : i < 30) (P9 : Nat → Nat → Prop) (G : Nat → Int32) (hq9 : Rq A9 i P9) (hP9 : Rg 24 P9) (hG : Rp G P9) : Met l yX10_countRegions wsX10_countRegions ({ frames := 1, cells := 0, slots := 0, locals := 22 } : Room) (va_Pc [.ref (a 0), .int (zI ((i : Int)))] (rPre D (tyL k) (va_pl L f))) (vp_Si (fun r9 => r9 = zI ((sizeR G : Nat) : Int))) 0 0 (fun _ => False) := by
  refine Met.ofW (cc := cX10_countRegions) (maxL := 4) (ret := (some .int)) (by decide) rfl ?_
  intro p e s m args below meth c s₁ B hml hv
  obtain ⟨rfl, hP, hC⟩ := hv
  have hK := hC.1
  have hNW := hC.2.1
  have hx := B.exec
  have hb := B.bytes
  have hrt := B.returns
  have hts := atoms_spec (ws := wsX10_countRegions) B.pre
  have hown : s.vm.findClass RX10 = some m.cls := findClass_of_methodNamed B.named
  have hlocks := B.notSynchronized
  have hi_X10 : ∀ w ∈ u_ws RX10 TX10 13, w ∈ wsX10_countRegions := by decide +kernel
  have hw_0 := hts (.fieldLink RX10 35 "RegionryModel" "rows" "[I") (by decide +kernel)
  have hl := lv_entry ([.ref (a 0), .int (zI ((i : Int)))]) (n := 4) (Nat.le_of_ble_eq_true rfl)
  rw [lg_entry_eq]
  generalize (lg_sl ([.ref (a 0), .int (zI ((i : Int)))]) ++ List.replicate (4 - (lg_sl ([.ref (a 0), .int (zI ((i : Int)))])).length) Slot.unset).toArray = ls at hl ⊢
  have hl : lv_has ls 4 [(0, .ref (a 0)), (1, .int (zI ((i : Int))))] := hl
  obtain ⟨Q, hQ⟩ : ∃ Q, Q = MQ below (vp_Si (fun r9 => r9 = zI ((sizeR G : Nat) : Int))) ([.ref (a 0), .int (zI ((i : Int)))] : List Value).toArray s 0 0 (fun _ => False) := ⟨_, rfl⟩
  rw [← hQ]
  refine zr_const hx hb dX10_countRegions_0 ?_
  refine lv_istore_n (lv' := [(2, .int (zI (0))), (0, .ref (a 0)), (1, .int (zI ((i : Int))))]) hx hb dX10_countRegions_1 rfl hl (by decide) rfl (fun ls hl => ?_)
  refine zr_const hx hb dX10_countRegions_2 ?_
  refine lv_istore_n (lv' := [(3, .int (zI (0))), (2, .int (zI (0))), (0, .ref (a 0)), (1, .int (zI ((i : Int))))]) hx hb dX10_countRegions_3 rfl hl (by decide) rfl (fun ls hl => ?_)
  have cut_4 : ∀ (n9 : Nat) (x : Nat) (z3 : Int) (z2 : Int), (x ≤ 25) → (z3 = x) → (z2 = ((fb_sm (fun j => fb_ct (bt (A9 (25 * i + j))) 25) x : Nat) : Int)) → 25 - z3 < (n9 : Int) → ∀ (ls : Array Slot), lv_has ls 4 [(0, .ref (a 0)), (1, .int (zI ((i : Int)))), (2, .int (zI (z2))), (3, .int (zI (z3)))] → W p l e (headSpec wsX10_countRegions ({ frames := 1, cells := 0, slots := 0, locals := 22 } : Room)).room s m ([.ref (a 0), .int (zI ((i : Int)))] : List Value).toArray below meth c s.heap [] 0 0 Q (F0 m 4 ls []) := by
    intro n9
    induction n9 with
    | zero =>
      intro x z3 z2 hk hz3 hz2 hfu
      exact absurd hfu (by omega)
    | succ n9 ih_4 =>
      intro x z3 z2 hk hz3 hz2 hfu ls hl
      refine lv_iload_n hx hb dX10_countRegions_4 rfl (lv_at hl 3 rfl) ?_
      refine zr_bipush hx hb dX10_countRegions_5 (by decide) ?_
      refine zr_icmp_ge (tgt := 33) hx hb dX10_countRegions_7 (by decide) (by omega) (by omega) (fun c1 => ?_) (fun c1 => ?_)
      · refine lv_iload_n hx hb dX10_countRegions_33 rfl (lv_at hl 2 rfl) ?_
        rw [hQ]
        exact rc_iret hx hb hrt (by obtain rfl : x = 25 := (by omega); rw [hz2, cr_size hq9 hP9 hG]) dX10_countRegions_34 hlocks
      · refine lv_iload_n hx hb dX10_countRegions_10 rfl (lv_at hl 2 rfl) ?_
        refine lv_aload_n hx hb dX10_countRegions_11 rfl (lv_at hl 0 rfl) ?_
        refine pl_get (ci := 9) (v := .ref (a 9)) (C := RX10) (T := TX10) (N := 13) hx hb hts hi_X10 hown hK hP (hM.2.2.2.2.2.2.2.2.2.2.2.1 0 (by decide)) hM.1 rfl 11 (by decide) hw_0 (fun _ h9 => h9) rfl dX10_countRegions_12 ?_
        refine zr_bipush hx hb dX10_countRegions_15 (by decide) ?_
        refine lv_iload_n hx hb dX10_countRegions_17 rfl (lv_at hl 1 rfl) ?_
        refine zr_mul hx hb dX10_countRegions_18 ?_
        refine lv_iload_n hx hb dX10_countRegions_19 rfl (lv_at hl 3 rfl) ?_
        refine zr_add hx hb dX10_countRegions_20 ?_
        refine pl_iald hx hb hK hP (hM.2.2.2.2.2.2.2.2.2.2.2.1 9 (by decide)) 0 hM.2.2.2.2.2.2.2.2.2.1 rfl (25 * i + x) (by omega) (by omega) (by decide) dX10_countRegions_21 ?_
        refine vp_callSi (va_Run.run (va_runS (As := [.int (A9 (25 * i + x))]) (rest := [.int (zI (z2))]) ⟨hx, hb, hml, hown, hts⟩ (kX10_bits l D k L f (A9 (25 * i + x))) (va_cwS 1 hts gX10_countRegions_X10_bits rfl rfl rfl (by decide +kernel) ⟨Nat.le_of_ble_eq_true rfl, Nat.le_of_ble_eq_true rfl⟩) (rc_preS hC hP) rfl rfl hl.1 rfl (lv_room (Nat.le_of_ble_eq_true rfl)) dX10_countRegions_22 ⟨Nat.zero_le _, Nat.zero_le _⟩)) (fun r2 hr2 => ?_)
        subst hr2
        refine zr_add hx hb dX10_countRegions_25 ?_
        refine lv_istore_n (lv' := [(2, .int (zI (z2 + (((fb_ct (bt (A9 (25 * i + x))) 25 : Nat) : Int))))), (0, .ref (a 0)), (1, .int (zI ((i : Int)))), (3, .int (zI (z3)))]) hx hb dX10_countRegions_26 rfl hl (by decide) rfl (fun ls hl => ?_)
        refine zr_iinc (k := 3) (lv' := [(3, .int (zI (z3 + 1))), (2, .int (zI (z2 + (((fb_ct (bt (A9 (25 * i + x))) 25 : Nat) : Int))))), (0, .ref (a 0)), (1, .int (zI ((i : Int))))]) hx hb dX10_countRegions_27 hl rfl (by decide) rfl (fun ls hl => ?_)
        refine lv_goto (tgt := 4) hx hb dX10_countRegions_30 (by decide) ?_
        exact ih_4 (x + 1) (z3 + 1) (z2 + (((fb_ct (bt (A9 (25 * i + x))) 25 : Nat) : Int))) (by omega) (by omega) (by rw [fb_sm_succ, hz2]; omega) (by omega) _ (lv_sub hl [2, 3, 1, 0] rfl)
  exact cut_4 ((25 - (0) : Int).toNat + 1) (0) (0) (0) (by omega) (by omega) (rfl) (by omega) _ (lv_sub hl [2, 3, 1, 0] rfl)

set_option maxHeartbeats 4000000 in
set_option maxRecDepth 100000 in
theorem kX10_countMarks (l : Launch) (D : va_G) (k : Nat → ClassId) (L : List Nat) (f : Nat → va_E) (a : Nat → Nat) (tw n cn : Int) (A1 A2 A3 A4 A5 A6 A7 A8 A9 A10 : Nat → Int32) (hM : mRep k L f a tw n cn A1 A2 A3 A4 A5 A6 A7 A8 A9 A10) (hMC : 0 ≤ cn ∧ cn ≤ 30) (hMT : 0 ≤ tw ∧ tw ≤ 3) (hMN : 0 ≤ n ∧ n ≤ 24) (i : Nat) (hi : i < 4) (P9 : Nat → Nat → Prop) (G : Nat → Int32) (hq9 : Rq A2 i P9) (hP9 : Rg 24 P9) (hG : Rp G P9) : Met l yX10_countMarks wsX10_countMarks ({ frames := 1, cells := 0, slots := 0, locals := 22 } : Room) (va_Pc [.ref (a 0), .int (zI ((i : Int)))] (rPre D (tyL k) (va_pl L f))) (vp_Si (fun r9 => r9 = zI ((sizeR G : Nat) : Int))) 0 0 (fun _ => False) := by
  refine Met.ofW (cc := cX10_countMarks) (maxL := 4) (ret := (some .int)) (by decide) rfl ?_
  intro p e s m args below meth c s₁ B hml hv
  obtain ⟨rfl, hP, hC⟩ := hv
  have hK := hC.1
  have hNW := hC.2.1
  have hx := B.exec
  have hb := B.bytes
  have hrt := B.returns
  have hts := atoms_spec (ws := wsX10_countMarks) B.pre
  have hown : s.vm.findClass RX10 = some m.cls := findClass_of_methodNamed B.named
  have hlocks := B.notSynchronized
  have hi_X10 : ∀ w ∈ u_ws RX10 TX10 13, w ∈ wsX10_countMarks := by decide +kernel
  have hw_0 := hts (.fieldLink RX10 13 "RegionryModel" "marks" "[I") (by decide +kernel)
  have hl := lv_entry ([.ref (a 0), .int (zI ((i : Int)))]) (n := 4) (Nat.le_of_ble_eq_true rfl)
  rw [lg_entry_eq]
  generalize (lg_sl ([.ref (a 0), .int (zI ((i : Int)))]) ++ List.replicate (4 - (lg_sl ([.ref (a 0), .int (zI ((i : Int)))])).length) Slot.unset).toArray = ls at hl ⊢
  have hl : lv_has ls 4 [(0, .ref (a 0)), (1, .int (zI ((i : Int))))] := hl
  obtain ⟨Q, hQ⟩ : ∃ Q, Q = MQ below (vp_Si (fun r9 => r9 = zI ((sizeR G : Nat) : Int))) ([.ref (a 0), .int (zI ((i : Int)))] : List Value).toArray s 0 0 (fun _ => False) := ⟨_, rfl⟩
  rw [← hQ]
  refine zr_const hx hb dX10_countMarks_0 ?_
  refine lv_istore_n (lv' := [(2, .int (zI (0))), (0, .ref (a 0)), (1, .int (zI ((i : Int))))]) hx hb dX10_countMarks_1 rfl hl (by decide) rfl (fun ls hl => ?_)
  refine zr_const hx hb dX10_countMarks_2 ?_
  refine lv_istore_n (lv' := [(3, .int (zI (0))), (2, .int (zI (0))), (0, .ref (a 0)), (1, .int (zI ((i : Int))))]) hx hb dX10_countMarks_3 rfl hl (by decide) rfl (fun ls hl => ?_)
  have cut_4 : ∀ (n9 : Nat) (x : Nat) (z3 : Int) (z2 : Int), (x ≤ 25) → (z3 = x) → (z2 = ((fb_sm (fun j => fb_ct (bt (A2 (25 * i + j))) 25) x : Nat) : Int)) → 25 - z3 < (n9 : Int) → ∀ (ls : Array Slot), lv_has ls 4 [(0, .ref (a 0)), (1, .int (zI ((i : Int)))), (2, .int (zI (z2))), (3, .int (zI (z3)))] → W p l e (headSpec wsX10_countMarks ({ frames := 1, cells := 0, slots := 0, locals := 22 } : Room)).room s m ([.ref (a 0), .int (zI ((i : Int)))] : List Value).toArray below meth c s.heap [] 0 0 Q (F0 m 4 ls []) := by
    intro n9
    induction n9 with
    | zero =>
      intro x z3 z2 hk hz3 hz2 hfu
      exact absurd hfu (by omega)
    | succ n9 ih_4 =>
      intro x z3 z2 hk hz3 hz2 hfu ls hl
      refine lv_iload_n hx hb dX10_countMarks_4 rfl (lv_at hl 3 rfl) ?_
      refine zr_bipush hx hb dX10_countMarks_5 (by decide) ?_
      refine zr_icmp_ge (tgt := 33) hx hb dX10_countMarks_7 (by decide) (by omega) (by omega) (fun c1 => ?_) (fun c1 => ?_)
      · refine lv_iload_n hx hb dX10_countMarks_33 rfl (lv_at hl 2 rfl) ?_
        rw [hQ]
        exact rc_iret hx hb hrt (by obtain rfl : x = 25 := (by omega); rw [hz2, cr_size hq9 hP9 hG]) dX10_countMarks_34 hlocks
      · refine lv_iload_n hx hb dX10_countMarks_10 rfl (lv_at hl 2 rfl) ?_
        refine lv_aload_n hx hb dX10_countMarks_11 rfl (lv_at hl 0 rfl) ?_
        refine pl_get (ci := 9) (v := .ref (a 2)) (C := RX10) (T := TX10) (N := 13) hx hb hts hi_X10 hown hK hP (hM.2.2.2.2.2.2.2.2.2.2.2.1 0 (by decide)) hM.1 rfl 3 (by decide) hw_0 (fun _ h9 => h9) rfl dX10_countMarks_12 ?_
        refine zr_bipush hx hb dX10_countMarks_15 (by decide) ?_
        refine lv_iload_n hx hb dX10_countMarks_17 rfl (lv_at hl 1 rfl) ?_
        refine zr_mul hx hb dX10_countMarks_18 ?_
        refine lv_iload_n hx hb dX10_countMarks_19 rfl (lv_at hl 3 rfl) ?_
        refine zr_add hx hb dX10_countMarks_20 ?_
        refine pl_iald hx hb hK hP (hM.2.2.2.2.2.2.2.2.2.2.2.1 2 (by decide)) 0 hM.2.2.1 rfl (25 * i + x) (by omega) (by omega) (by decide) dX10_countMarks_21 ?_
        refine vp_callSi (va_Run.run (va_runS (As := [.int (A2 (25 * i + x))]) (rest := [.int (zI (z2))]) ⟨hx, hb, hml, hown, hts⟩ (kX10_bits l D k L f (A2 (25 * i + x))) (va_cwS 1 hts gX10_countMarks_X10_bits rfl rfl rfl (by decide +kernel) ⟨Nat.le_of_ble_eq_true rfl, Nat.le_of_ble_eq_true rfl⟩) (rc_preS hC hP) rfl rfl hl.1 rfl (lv_room (Nat.le_of_ble_eq_true rfl)) dX10_countMarks_22 ⟨Nat.zero_le _, Nat.zero_le _⟩)) (fun r2 hr2 => ?_)
        subst hr2
        refine zr_add hx hb dX10_countMarks_25 ?_
        refine lv_istore_n (lv' := [(2, .int (zI (z2 + (((fb_ct (bt (A2 (25 * i + x))) 25 : Nat) : Int))))), (0, .ref (a 0)), (1, .int (zI ((i : Int)))), (3, .int (zI (z3)))]) hx hb dX10_countMarks_26 rfl hl (by decide) rfl (fun ls hl => ?_)
        refine zr_iinc (k := 3) (lv' := [(3, .int (zI (z3 + 1))), (2, .int (zI (z2 + (((fb_ct (bt (A2 (25 * i + x))) 25 : Nat) : Int))))), (0, .ref (a 0)), (1, .int (zI ((i : Int))))]) hx hb dX10_countMarks_27 hl rfl (by decide) rfl (fun ls hl => ?_)
        refine lv_goto (tgt := 4) hx hb dX10_countMarks_30 (by decide) ?_
        exact ih_4 (x + 1) (z3 + 1) (z2 + (((fb_ct (bt (A2 (25 * i + x))) 25 : Nat) : Int))) (by omega) (by omega) (by rw [fb_sm_succ, hz2]; omega) (by omega) _ (lv_sub hl [2, 3, 1, 0] rfl)
  exact cut_4 ((25 - (0) : Int).toNat + 1) (0) (0) (0) (by omega) (by omega) (rfl) (by omega) _ (lv_sub hl [2, 3, 1, 0] rfl)

set_option maxHeartbeats 4000000 in
set_option maxRecDepth 100000 in
theorem kX10_countAt (l : Launch) (D : va_G) (k : Nat → ClassId) (L : List Nat) (f : Nat → va_E) (a : Nat → Nat) (tw n cn : Int) (A1 A2 A3 A4 A5 A6 A7 A8 A9 A10 : Nat → Int32) (hM : mRep k L f a tw n cn A1 A2 A3 A4 A5 A6 A7 A8 A9 A10) (hMC : 0 ≤ cn ∧ cn ≤ 30) (hMT : 0 ≤ tw ∧ tw ≤ 3) (hMN : 0 ≤ n ∧ n ≤ 24) (i : Nat) (hi : i < 30) (P9 : Nat → Nat → Prop) (G : Nat → Int32) (hq9 : Rq A9 i P9) (hP9 : Rg 24 P9) (hG : Rp G P9) (q : Nat) (hq : q < 24) : Met l yX10_countAt wsX10_countAt ({ frames := 1, cells := 0, slots := 0, locals := 22 } : Room) (va_Pc [.ref (a 0), .int (zI ((i : Int))), .int (zI ((q : Int)))] (rPre D (tyL k) (va_pl L f))) (vp_Si (fun r9 => r9 = zI ((ovN G (q : Int) : Nat) : Int))) 0 0 (fun _ => False) := by
  refine Met.ofW (cc := cX10_countAt) (maxL := 5) (ret := (some .int)) (by decide) rfl ?_
  intro p e s m args below meth c s₁ B hml hv
  obtain ⟨rfl, hP, hC⟩ := hv
  have hK := hC.1
  have hNW := hC.2.1
  have hx := B.exec
  have hb := B.bytes
  have hrt := B.returns
  have hts := atoms_spec (ws := wsX10_countAt) B.pre
  have hown : s.vm.findClass RX10 = some m.cls := findClass_of_methodNamed B.named
  have hlocks := B.notSynchronized
  have hi_X10 : ∀ w ∈ u_ws RX10 TX10 13, w ∈ wsX10_countAt := by decide +kernel
  have hw_0 := hts (.fieldLink RX10 35 "RegionryModel" "rows" "[I") (by decide +kernel)
  have hl := lv_entry ([.ref (a 0), .int (zI ((i : Int))), .int (zI ((q : Int)))]) (n := 5) (Nat.le_of_ble_eq_true rfl)
  rw [lg_entry_eq]
  generalize (lg_sl ([.ref (a 0), .int (zI ((i : Int))), .int (zI ((q : Int)))]) ++ List.replicate (5 - (lg_sl ([.ref (a 0), .int (zI ((i : Int))), .int (zI ((q : Int)))])).length) Slot.unset).toArray = ls at hl ⊢
  have hl : lv_has ls 5 [(0, .ref (a 0)), (1, .int (zI ((i : Int)))), (2, .int (zI ((q : Int))))] := hl
  obtain ⟨Q, hQ⟩ : ∃ Q, Q = MQ below (vp_Si (fun r9 => r9 = zI ((ovN G (q : Int) : Nat) : Int))) ([.ref (a 0), .int (zI ((i : Int))), .int (zI ((q : Int)))] : List Value).toArray s 0 0 (fun _ => False) := ⟨_, rfl⟩
  rw [← hQ]
  refine zr_const hx hb dX10_countAt_0 ?_
  refine lv_istore_n (lv' := [(3, .int (zI (0))), (0, .ref (a 0)), (1, .int (zI ((i : Int)))), (2, .int (zI ((q : Int))))]) hx hb dX10_countAt_1 rfl hl (by decide) rfl (fun ls hl => ?_)
  refine zr_const hx hb dX10_countAt_2 ?_
  refine lv_istore (lv' := [(4, .int (zI (0))), (3, .int (zI (0))), (0, .ref (a 0)), (1, .int (zI ((i : Int)))), (2, .int (zI ((q : Int))))]) hx hb dX10_countAt_3 hl (by decide) rfl (fun ls hl => ?_)
  have cut_5 : ∀ (n9 : Nat) (x : Nat) (z4 : Int) (z3 : Int), (x ≤ q + 1) → (z4 = x) → (z3 = ((fb_sm (fun j => fb_ct (bt (A9 (25 * i + j) &&& onM ((q : Int) + 1))) 25) x : Nat) : Int)) → (q : Int) + 1 - z4 < (n9 : Int) → ∀ (ls : Array Slot), lv_has ls 5 [(0, .ref (a 0)), (1, .int (zI ((i : Int)))), (2, .int (zI ((q : Int)))), (3, .int (zI (z3))), (4, .int (zI (z4)))] → W p l e (headSpec wsX10_countAt ({ frames := 1, cells := 0, slots := 0, locals := 22 } : Room)).room s m ([.ref (a 0), .int (zI ((i : Int))), .int (zI ((q : Int)))] : List Value).toArray below meth c s.heap [] 0 0 Q (F0 m 5 ls []) := by
    intro n9
    induction n9 with
    | zero =>
      intro x z4 z3 hk hz4 hz3 hfu
      exact absurd hfu (by omega)
    | succ n9 ih_5 =>
      intro x z4 z3 hk hz4 hz3 hfu ls hl
      refine lv_iload hx hb dX10_countAt_5 (lv_at hl 4 rfl) ?_
      refine lv_iload_n hx hb dX10_countAt_7 rfl (lv_at hl 2 rfl) ?_
      refine zr_icmp_gt (tgt := 42) hx hb dX10_countAt_8 (by decide) (by omega) (by omega) (fun c1 => ?_) (fun c1 => ?_)
      · refine lv_iload_n hx hb dX10_countAt_42 rfl (lv_at hl 3 rfl) ?_
        rw [hQ]
        exact rc_iret hx hb hrt (by obtain rfl : x = q + 1 := (by omega); rw [hz3, ov_eq hq9 hP9 hG hq]) dX10_countAt_43 hlocks
      · refine lv_iload_n hx hb dX10_countAt_11 rfl (lv_at hl 3 rfl) ?_
        refine lv_aload_n hx hb dX10_countAt_12 rfl (lv_at hl 0 rfl) ?_
        refine pl_get (ci := 9) (v := .ref (a 9)) (C := RX10) (T := TX10) (N := 13) hx hb hts hi_X10 hown hK hP (hM.2.2.2.2.2.2.2.2.2.2.2.1 0 (by decide)) hM.1 rfl 11 (by decide) hw_0 (fun _ h9 => h9) rfl dX10_countAt_13 ?_
        refine zr_bipush hx hb dX10_countAt_16 (by decide) ?_
        refine lv_iload_n hx hb dX10_countAt_18 rfl (lv_at hl 1 rfl) ?_
        refine zr_mul hx hb dX10_countAt_19 ?_
        refine lv_iload hx hb dX10_countAt_20 (lv_at hl 4 rfl) ?_
        refine zr_add hx hb dX10_countAt_22 ?_
        refine pl_iald hx hb hK hP (hM.2.2.2.2.2.2.2.2.2.2.2.1 9 (by decide)) 0 hM.2.2.2.2.2.2.2.2.2.1 rfl (25 * i + x) (by omega) (by omega) (by decide) dX10_countAt_23 ?_
        refine lv_iload_n hx hb dX10_countAt_24 rfl (lv_at hl 2 rfl) ?_
        refine zr_const hx hb dX10_countAt_25 ?_
        refine zr_add hx hb dX10_countAt_26 ?_
        refine vp_callSi (va_Run.run (va_runS (As := [.int (zI (((q : Int)) + 1))]) (rest := [.int (A9 (25 * i + x)), .int (zI (z3))]) ⟨hx, hb, hml, hown, hts⟩ (kX10_fromOn l D k L f (((q : Int)) + 1) (by omega)) (va_cwS 1 hts gX10_countAt_X10_fromOn rfl rfl rfl (by decide +kernel) ⟨Nat.le_of_ble_eq_true rfl, Nat.le_of_ble_eq_true rfl⟩) (rc_preS hC hP) rfl rfl hl.1 rfl (lv_room (Nat.le_of_ble_eq_true rfl)) dX10_countAt_27 ⟨Nat.zero_le _, Nat.zero_le _⟩)) (fun r2 hr2 => ?_)
        subst hr2
        refine lv_iand hx hb dX10_countAt_30 ?_
        refine vp_callSi (va_Run.run (va_runS (As := [.int ((A9 (25 * i + x)) &&& (onM (((q : Int)) + 1)))]) (rest := [.int (zI (z3))]) ⟨hx, hb, hml, hown, hts⟩ (kX10_bits l D k L f ((A9 (25 * i + x)) &&& (onM (((q : Int)) + 1)))) (va_cwS 1 hts gX10_countAt_X10_bits rfl rfl rfl (by decide +kernel) ⟨Nat.le_of_ble_eq_true rfl, Nat.le_of_ble_eq_true rfl⟩) (rc_preS hC hP) rfl rfl hl.1 rfl (lv_room (Nat.le_of_ble_eq_true rfl)) dX10_countAt_31 ⟨Nat.zero_le _, Nat.zero_le _⟩)) (fun r3 hr3 => ?_)
        subst hr3
        refine zr_add hx hb dX10_countAt_34 ?_
        refine lv_istore_n (lv' := [(3, .int (zI (z3 + (((fb_ct (bt ((A9 (25 * i + x)) &&& (onM (((q : Int)) + 1)))) 25 : Nat) : Int))))), (0, .ref (a 0)), (1, .int (zI ((i : Int)))), (2, .int (zI ((q : Int)))), (4, .int (zI (z4)))]) hx hb dX10_countAt_35 rfl hl (by decide) rfl (fun ls hl => ?_)
        refine zr_iinc (k := 4) (lv' := [(4, .int (zI (z4 + 1))), (3, .int (zI (z3 + (((fb_ct (bt ((A9 (25 * i + x)) &&& (onM (((q : Int)) + 1)))) 25 : Nat) : Int))))), (0, .ref (a 0)), (1, .int (zI ((i : Int)))), (2, .int (zI ((q : Int))))]) hx hb dX10_countAt_36 hl rfl (by decide) rfl (fun ls hl => ?_)
        refine lv_goto (tgt := 5) hx hb dX10_countAt_39 (by decide) ?_
        exact ih_5 (x + 1) (z4 + 1) (z3 + (((fb_ct (bt ((A9 (25 * i + x)) &&& (onM (((q : Int)) + 1)))) 25 : Nat) : Int))) (by omega) (by omega) (by rw [fb_sm_succ, hz3]; omega) (by omega) _ (lv_sub hl [2, 3, 4, 1, 0] rfl)
  exact cut_5 (((q : Int) + 1 - (0) : Int).toNat + 1) (0) (0) (0) (by omega) (by omega) (rfl) (by omega) _ (lv_sub hl [2, 3, 4, 1, 0] rfl)

set_option maxHeartbeats 4000000 in
set_option maxRecDepth 100000 in
theorem kX10_regionsOneByOne (l : Launch) (D : va_G) (k : Nat → ClassId) (L : List Nat) (f : Nat → va_E) (S : SA) (hO : aOK S) (a : Nat → Nat) (tw : Int) (A1 A2 A3 A4 A5 A6 A7 A8 A9 A10 : Nat → Int32) (hM : mRep k L f a tw ((sN S)) ((sC S : Int)) A1 A2 A3 A4 A5 A6 A7 A8 A9 A10) (hMT : 0 ≤ tw ∧ tw ≤ 3) (hY : mSync S A1 A2 A3 A4 A5 A6 A7) (i : Nat) (hi : i < sC S) (G : Nat → Int32) (hG : Rp G (sem S i)) (n0 sz : Nat) : Met l yX10_regionsOneByOne wsX10_regionsOneByOne ({ frames := 6, cells := 0, slots := 0, locals := 140 } : Room) (va_Pc [.ref (a 0), .int (zI ((i : Int)))] (pPre D (tyL k) n0 (va_pl L f) sz)) (va_Qi (fun r9 u => r9 = zI ((sizeR G : Nat) : Int) ∧ ∃ (F : Nat → va_E) (N3 R V : Nat → Int32), u = va_pl L F ∧ mRep k L F a 0 ((sN S)) ((sC S : Int)) A1 A2 A3 A4 A5 A6 A7 N3 R V) (pB D (va_pl L f) sz) (va_A (va_pl L f) sz)) 0 0 (va_A (va_pl L f) sz) := by
  refine Met.ofW (cc := cX10_regionsOneByOne) (maxL := 2) (ret := (some .int)) (by decide) rfl ?_
  intro p e s m args below meth c s₁ B hml hv
  obtain ⟨rfl, hsz, hn9, hP, hC, hD0⟩ := hv
  have hK := hC.1
  have hNW := hC.2.1
  have hx := B.exec
  have hb := B.bytes
  have hrt := B.returns
  have hts := atoms_spec (ws := wsX10_regionsOneByOne) B.pre
  have hown : s.vm.findClass RX10 = some m.cls := findClass_of_methodNamed B.named
  have hlocks := B.notSynchronized
  subst hsz
  obtain ⟨A, hAd⟩ : ∃ A, A = va_A (va_pl L f) s.heap.size := ⟨_, rfl⟩
  have hD := hD0.self (sz := s.heap.size)
  rw [← hAd] at hD
  have hA : ∀ q : Nat, s.heap.size ≤ q → A q := fun q h => by rw [hAd]; exact Or.inr h
  have hAn : ∀ q : Nat, A q → n0 ≤ q := fun q h => by
    rw [hAd] at h
    rcases h with ⟨k9, e9, hk9⟩ | h
    · exact hD0.2 k9 _ hk9
    · exact Nat.le_trans hn9 h
  have hS : va_S A s.heap s.heap [] := va_S.rf
  have hl := lv_entry ([.ref (a 0), .int (zI ((i : Int)))]) (n := 2) (Nat.le_of_ble_eq_true rfl)
  rw [lg_entry_eq]
  generalize (lg_sl ([.ref (a 0), .int (zI ((i : Int)))]) ++ List.replicate (2 - (lg_sl ([.ref (a 0), .int (zI ((i : Int)))])).length) Slot.unset).toArray = ls at hl ⊢
  have hl : lv_has ls 2 [(0, .ref (a 0)), (1, .int (zI ((i : Int))))] := hl
  obtain ⟨Q, hQ⟩ : ∃ Q, Q = MQ below (va_Qi (fun r9 u => r9 = zI ((sizeR G : Nat) : Int) ∧ ∃ (F : Nat → va_E) (N3 R V : Nat → Int32), u = va_pl L F ∧ mRep k L F a 0 ((sN S)) ((sC S : Int)) A1 A2 A3 A4 A5 A6 A7 N3 R V) (pB D (va_pl L f) s.heap.size) (va_A (va_pl L f) s.heap.size)) ([.ref (a 0), .int (zI ((i : Int)))] : List Value).toArray s 0 0 (va_A (va_pl L f) s.heap.size) := ⟨_, rfl⟩
  rw [← hQ]
  have hMN := hO.1
  have hMC : 0 ≤ (sC S : Int) ∧ (sC S : Int) ≤ 30 := by have h8 := hO.2.2.2.1; omega
  refine lv_aload_n hx hb dX10_regionsOneByOne_0 rfl (lv_at hl 0 rfl) ?_
  refine lv_iload_n hx hb dX10_regionsOneByOne_1 rfl (lv_at hl 1 rfl) ?_
  refine pc_calli (va_runV (As := [.int (zI ((i : Int)))]) (rest := []) ⟨hx, hb, hml, hown, hts⟩ (kX10_canAsk l D k L f S hO a tw A1 A2 A3 A4 A5 A6 A7 A8 A9 A10 hM (by omega) hY i hi n0 _) (cwV 1 hts gX10_regionsOneByOne_X10_canAsk rfl rfl rfl (by decide +kernel) ⟨Nat.le_of_ble_eq_true rfl, Nat.le_of_ble_eq_true rfl⟩) (pc_preV hC hP (Nat.le_trans hn9 hS.1) hD hAn (pl_recv hK hP (hM.2.2.2.2.2.2.2.2.2.2.2.1 0 (by decide)) hM.1 (ci := 9) (q := (RX10, TX10, 13)) rfl)) rfl rfl hl.1 rfl (lv_room (Nat.le_of_ble_eq_true rfl)) dX10_regionsOneByOne_2 ⟨Nat.zero_le _, Nat.zero_le _⟩) hD hS hA (fun r1 ur1 H locs hr1 hP hD hS hzr1 => ?_)
  obtain ⟨hvr1, Fr1, Nr1, Rr1, Vr1, hwr1, hMr1, hQr1⟩ := hr1
  have hvr1 : r1 = bI true := hvr1
  subst hvr1
  have hwr1 : ur1 = va_pl L Fr1 := hwr1
  subst hwr1
  refine zr_ifb_eq (tgt := 16) hx hb dX10_regionsOneByOne_5 (by decide) (fun c2 => ?_) (fun c2 => ?_)
  · exact absurd c2 (by decide)
  · refine lv_aload_n hx hb dX10_regionsOneByOne_8 rfl (lv_at hl 0 rfl) ?_
    refine lv_iload_n hx hb dX10_regionsOneByOne_9 rfl (lv_at hl 1 rfl) ?_
    refine vp_callSi (va_Run.run (va_runV (As := [.int (zI ((i : Int)))]) (rest := []) ⟨hx, hb, hml, hown, hts⟩ (kX10_countRegions l D k L Fr1 a 0 ((sN S)) ((sC S : Int)) A1 A2 A3 A4 A5 A6 A7 Nr1 Rr1 Vr1 hMr1 (by omega) (by omega) (by omega) i (by omega) (sem S i) G hQr1 (sem24 hO hi) hG) (cwV 1 hts gX10_regionsOneByOne_X10_countRegions rfl rfl rfl (by decide +kernel) ⟨Nat.le_of_ble_eq_true rfl, Nat.le_of_ble_eq_true rfl⟩) (rc_preV hC hP (pl_recv hK hP (hMr1.2.2.2.2.2.2.2.2.2.2.2.1 0 (by decide)) hMr1.1 (ci := 9) (q := (RX10, TX10, 13)) rfl)) rfl rfl hl.1 rfl (lv_room (Nat.le_of_ble_eq_true rfl)) dX10_regionsOneByOne_10 ⟨Nat.zero_le _, Nat.zero_le _⟩)) (fun r3 hr3 => ?_)
    subst hr3
    refine lv_goto (tgt := 17) hx hb dX10_regionsOneByOne_13 (by decide) ?_
    rw [hQ]
    exact pc_iret hx hb hrt hP (by rw [← hAd]; exact hD) (by rw [← hAd]; exact hS) (⟨rfl, _, _, _, _, rfl, hMr1⟩) dX10_regionsOneByOne_17 hlocks

set_option maxHeartbeats 4000000 in
set_option maxRecDepth 100000 in
theorem kX10_regionsOneByOne_n (l : Launch) (D : va_G) (k : Nat → ClassId) (L : List Nat) (f : Nat → va_E) (S : SA) (hO : aOK S) (a : Nat → Nat) (tw : Int) (A1 A2 A3 A4 A5 A6 A7 A8 A9 A10 : Nat → Int32) (hM : mRep k L f a tw ((sN S)) ((sC S : Int)) A1 A2 A3 A4 A5 A6 A7 A8 A9 A10) (hMT : 0 ≤ tw ∧ tw ≤ 3) (hY : mSync S A1 A2 A3 A4 A5 A6 A7) (z : Int) (hz : -2147483648 ≤ z ∧ z < 2147483648) (hz2 : ¬ (0 ≤ z ∧ z < (sC S : Int))) (n0 sz : Nat) : Met l yX10_regionsOneByOne wsX10_regionsOneByOne ({ frames := 3, cells := 0, slots := 0, locals := 64 } : Room) (va_Pc [.ref (a 0), .int (zI (z))] (pPre D (tyL k) n0 (va_pl L f) sz)) (va_Qi (fun _ u => ∃ F : Nat → va_E, u = va_pl L F ∧ mRep k L F a 1 ((sN S)) ((sC S : Int)) A1 A2 A3 A4 A5 A6 A7 A8 A9 A10) (pB D (va_pl L f) sz) (va_A (va_pl L f) sz)) 0 0 (va_A (va_pl L f) sz) := by
  refine Met.ofW (cc := cX10_regionsOneByOne) (maxL := 2) (ret := (some .int)) (by decide) rfl ?_
  intro p e s m args below meth c s₁ B hml hv
  obtain ⟨rfl, hsz, hn9, hP, hC, hD0⟩ := hv
  have hK := hC.1
  have hNW := hC.2.1
  have hx := B.exec
  have hb := B.bytes
  have hrt := B.returns
  have hts := atoms_spec (ws := wsX10_regionsOneByOne) B.pre
  have hown : s.vm.findClass RX10 = some m.cls := findClass_of_methodNamed B.named
  have hlocks := B.notSynchronized
  subst hsz
  obtain ⟨A, hAd⟩ : ∃ A, A = va_A (va_pl L f) s.heap.size := ⟨_, rfl⟩
  have hD := hD0.self (sz := s.heap.size)
  rw [← hAd] at hD
  have hA : ∀ q : Nat, s.heap.size ≤ q → A q := fun q h => by rw [hAd]; exact Or.inr h
  have hAn : ∀ q : Nat, A q → n0 ≤ q := fun q h => by
    rw [hAd] at h
    rcases h with ⟨k9, e9, hk9⟩ | h
    · exact hD0.2 k9 _ hk9
    · exact Nat.le_trans hn9 h
  have hS : va_S A s.heap s.heap [] := va_S.rf
  have hl := lv_entry ([.ref (a 0), .int (zI (z))]) (n := 2) (Nat.le_of_ble_eq_true rfl)
  rw [lg_entry_eq]
  generalize (lg_sl ([.ref (a 0), .int (zI (z))]) ++ List.replicate (2 - (lg_sl ([.ref (a 0), .int (zI (z))])).length) Slot.unset).toArray = ls at hl ⊢
  have hl : lv_has ls 2 [(0, .ref (a 0)), (1, .int (zI (z)))] := hl
  obtain ⟨Q, hQ⟩ : ∃ Q, Q = MQ below (va_Qi (fun _ u => ∃ F : Nat → va_E, u = va_pl L F ∧ mRep k L F a 1 ((sN S)) ((sC S : Int)) A1 A2 A3 A4 A5 A6 A7 A8 A9 A10) (pB D (va_pl L f) s.heap.size) (va_A (va_pl L f) s.heap.size)) ([.ref (a 0), .int (zI (z))] : List Value).toArray s 0 0 (va_A (va_pl L f) s.heap.size) := ⟨_, rfl⟩
  rw [← hQ]
  have hMN := hO.1
  have hMC : 0 ≤ (sC S : Int) ∧ (sC S : Int) ≤ 30 := by have h8 := hO.2.2.2.1; omega
  refine lv_aload_n hx hb dX10_regionsOneByOne_0 rfl (lv_at hl 0 rfl) ?_
  refine lv_iload_n hx hb dX10_regionsOneByOne_1 rfl (lv_at hl 1 rfl) ?_
  refine pc_calli (va_runV (As := [.int (zI (z))]) (rest := []) ⟨hx, hb, hml, hown, hts⟩ (kX10_canAsk_n l D k L f S hO a tw A1 A2 A3 A4 A5 A6 A7 A8 A9 A10 hM (by omega) hY z hz hz2 n0 _) (cwV 1 hts gX10_regionsOneByOne_X10_canAsk rfl rfl rfl (by decide +kernel) ⟨Nat.le_of_ble_eq_true rfl, Nat.le_of_ble_eq_true rfl⟩) (pc_preV hC hP (Nat.le_trans hn9 hS.1) hD hAn (pl_recv hK hP (hM.2.2.2.2.2.2.2.2.2.2.2.1 0 (by decide)) hM.1 (ci := 9) (q := (RX10, TX10, 13)) rfl)) rfl rfl hl.1 rfl (lv_room (Nat.le_of_ble_eq_true rfl)) dX10_regionsOneByOne_2 ⟨Nat.zero_le _, Nat.zero_le _⟩) hD hS hA (fun r1 ur1 H locs hr1 hP hD hS hzr1 => ?_)
  obtain ⟨hvr1, Fr1, hwr1, hMr1⟩ := hr1
  have hvr1 : r1 = bI false := hvr1
  subst hvr1
  have hwr1 : ur1 = va_pl L Fr1 := hwr1
  subst hwr1
  refine zr_ifb_eq (tgt := 16) hx hb dX10_regionsOneByOne_5 (by decide) (fun c2 => ?_) (fun c2 => ?_)
  · refine zr_const hx hb dX10_regionsOneByOne_16 ?_
    rw [hQ]
    exact pc_iret hx hb hrt hP (by rw [← hAd]; exact hD) (by rw [← hAd]; exact hS) (⟨_, rfl, hMr1⟩) dX10_regionsOneByOne_17 hlocks
  · exact absurd c2 (by decide)

set_option maxHeartbeats 4000000 in
set_option maxRecDepth 100000 in
theorem kX10_regions (l : Launch) (D : va_G) (k : Nat → ClassId) (L : List Nat) (f : Nat → va_E) (S : SA) (hO : aOK S) (a : Nat → Nat) (tw : Int) (A1 A2 A3 A4 A5 A6 A7 A8 A9 A10 : Nat → Int32) (hM : mRep k L f a tw ((sN S)) ((sC S : Int)) A1 A2 A3 A4 A5 A6 A7 A8 A9 A10) (hMT : 0 ≤ tw ∧ tw ≤ 3) (hY : mSync S A1 A2 A3 A4 A5 A6 A7) (i : Nat) (hi : i < sC S) (G : Nat → Int32) (hG : Rp G (sem S i)) (n0 sz : Nat) : Met l yX10_regions wsX10_regions ({ frames := 7, cells := 0, slots := 0, locals := 161 } : Room) (va_Pc [.ref (a 0), .int (zI ((i : Int)))] (pPre D (tyL k) n0 (va_pl L f) sz)) (va_Qi (fun r9 u => r9 = zI ((sizeR G : Nat) : Int) ∧ ∃ (F : Nat → va_E) (N3 R V : Nat → Int32), u = va_pl L F ∧ mRep k L F a 0 ((sN S)) ((sC S : Int)) A1 A2 A3 A4 A5 A6 A7 N3 R V) (pB D (va_pl L f) sz) (va_A (va_pl L f) sz)) 0 0 (va_A (va_pl L f) sz) := by
  refine Met.ofW (cc := cX10_regions) (maxL := 2) (ret := (some .int)) (by decide) rfl ?_
  intro p e s m args below meth c s₁ B hml hv
  obtain ⟨rfl, hsz, hn9, hP, hC, hD0⟩ := hv
  have hK := hC.1
  have hNW := hC.2.1
  have hx := B.exec
  have hb := B.bytes
  have hrt := B.returns
  have hts := atoms_spec (ws := wsX10_regions) B.pre
  have hown : s.vm.findClass RX10 = some m.cls := findClass_of_methodNamed B.named
  have hlocks := B.notSynchronized
  subst hsz
  obtain ⟨A, hAd⟩ : ∃ A, A = va_A (va_pl L f) s.heap.size := ⟨_, rfl⟩
  have hD := hD0.self (sz := s.heap.size)
  rw [← hAd] at hD
  have hA : ∀ q : Nat, s.heap.size ≤ q → A q := fun q h => by rw [hAd]; exact Or.inr h
  have hAn : ∀ q : Nat, A q → n0 ≤ q := fun q h => by
    rw [hAd] at h
    rcases h with ⟨k9, e9, hk9⟩ | h
    · exact hD0.2 k9 _ hk9
    · exact Nat.le_trans hn9 h
  have hS : va_S A s.heap s.heap [] := va_S.rf
  have hl := lv_entry ([.ref (a 0), .int (zI ((i : Int)))]) (n := 2) (Nat.le_of_ble_eq_true rfl)
  rw [lg_entry_eq]
  generalize (lg_sl ([.ref (a 0), .int (zI ((i : Int)))]) ++ List.replicate (2 - (lg_sl ([.ref (a 0), .int (zI ((i : Int)))])).length) Slot.unset).toArray = ls at hl ⊢
  have hl : lv_has ls 2 [(0, .ref (a 0)), (1, .int (zI ((i : Int))))] := hl
  obtain ⟨Q, hQ⟩ : ∃ Q, Q = MQ below (va_Qi (fun r9 u => r9 = zI ((sizeR G : Nat) : Int) ∧ ∃ (F : Nat → va_E) (N3 R V : Nat → Int32), u = va_pl L F ∧ mRep k L F a 0 ((sN S)) ((sC S : Int)) A1 A2 A3 A4 A5 A6 A7 N3 R V) (pB D (va_pl L f) s.heap.size) (va_A (va_pl L f) s.heap.size)) ([.ref (a 0), .int (zI ((i : Int)))] : List Value).toArray s 0 0 (va_A (va_pl L f) s.heap.size) := ⟨_, rfl⟩
  rw [← hQ]
  have hMN := hO.1
  have hMC : 0 ≤ (sC S : Int) ∧ (sC S : Int) ≤ 30 := by have h8 := hO.2.2.2.1; omega
  refine lv_aload_n hx hb dX10_regions_0 rfl (lv_at hl 0 rfl) ?_
  refine lv_iload_n hx hb dX10_regions_1 rfl (lv_at hl 1 rfl) ?_
  refine pc_calli (va_runV (As := [.int (zI ((i : Int)))]) (rest := []) ⟨hx, hb, hml, hown, hts⟩ (kX10_regionsOneByOne l D k L f S hO a tw A1 A2 A3 A4 A5 A6 A7 A8 A9 A10 hM (by omega) hY i hi G hG n0 _) (cwV 1 hts gX10_regions_X10_regionsOneByOne rfl rfl rfl (by decide +kernel) ⟨Nat.le_of_ble_eq_true rfl, Nat.le_of_ble_eq_true rfl⟩) (pc_preV hC hP (Nat.le_trans hn9 hS.1) hD hAn (pl_recv hK hP (hM.2.2.2.2.2.2.2.2.2.2.2.1 0 (by decide)) hM.1 (ci := 9) (q := (RX10, TX10, 13)) rfl)) rfl rfl hl.1 rfl (lv_room (Nat.le_of_ble_eq_true rfl)) dX10_regions_2 ⟨Nat.zero_le _, Nat.zero_le _⟩) hD hS hA (fun r1 ur1 H locs hr1 hP hD hS hzr1 => ?_)
  rw [hQ]
  exact pc_iret hx hb hrt hP (by rw [← hAd]; exact hD) (by rw [← hAd]; exact hS) (hr1) dX10_regions_5 hlocks

set_option maxHeartbeats 4000000 in
set_option maxRecDepth 100000 in
theorem kX10_regions_n (l : Launch) (D : va_G) (k : Nat → ClassId) (L : List Nat) (f : Nat → va_E) (S : SA) (hO : aOK S) (a : Nat → Nat) (tw : Int) (A1 A2 A3 A4 A5 A6 A7 A8 A9 A10 : Nat → Int32) (hM : mRep k L f a tw ((sN S)) ((sC S : Int)) A1 A2 A3 A4 A5 A6 A7 A8 A9 A10) (hMT : 0 ≤ tw ∧ tw ≤ 3) (hY : mSync S A1 A2 A3 A4 A5 A6 A7) (z : Int) (hz : -2147483648 ≤ z ∧ z < 2147483648) (hz2 : ¬ (0 ≤ z ∧ z < (sC S : Int))) (n0 sz : Nat) : Met l yX10_regions wsX10_regions ({ frames := 4, cells := 0, slots := 0, locals := 85 } : Room) (va_Pc [.ref (a 0), .int (zI (z))] (pPre D (tyL k) n0 (va_pl L f) sz)) (va_Qi (fun _ u => ∃ F : Nat → va_E, u = va_pl L F ∧ mRep k L F a 1 ((sN S)) ((sC S : Int)) A1 A2 A3 A4 A5 A6 A7 A8 A9 A10) (pB D (va_pl L f) sz) (va_A (va_pl L f) sz)) 0 0 (va_A (va_pl L f) sz) := by
  refine Met.ofW (cc := cX10_regions) (maxL := 2) (ret := (some .int)) (by decide) rfl ?_
  intro p e s m args below meth c s₁ B hml hv
  obtain ⟨rfl, hsz, hn9, hP, hC, hD0⟩ := hv
  have hK := hC.1
  have hNW := hC.2.1
  have hx := B.exec
  have hb := B.bytes
  have hrt := B.returns
  have hts := atoms_spec (ws := wsX10_regions) B.pre
  have hown : s.vm.findClass RX10 = some m.cls := findClass_of_methodNamed B.named
  have hlocks := B.notSynchronized
  subst hsz
  obtain ⟨A, hAd⟩ : ∃ A, A = va_A (va_pl L f) s.heap.size := ⟨_, rfl⟩
  have hD := hD0.self (sz := s.heap.size)
  rw [← hAd] at hD
  have hA : ∀ q : Nat, s.heap.size ≤ q → A q := fun q h => by rw [hAd]; exact Or.inr h
  have hAn : ∀ q : Nat, A q → n0 ≤ q := fun q h => by
    rw [hAd] at h
    rcases h with ⟨k9, e9, hk9⟩ | h
    · exact hD0.2 k9 _ hk9
    · exact Nat.le_trans hn9 h
  have hS : va_S A s.heap s.heap [] := va_S.rf
  have hl := lv_entry ([.ref (a 0), .int (zI (z))]) (n := 2) (Nat.le_of_ble_eq_true rfl)
  rw [lg_entry_eq]
  generalize (lg_sl ([.ref (a 0), .int (zI (z))]) ++ List.replicate (2 - (lg_sl ([.ref (a 0), .int (zI (z))])).length) Slot.unset).toArray = ls at hl ⊢
  have hl : lv_has ls 2 [(0, .ref (a 0)), (1, .int (zI (z)))] := hl
  obtain ⟨Q, hQ⟩ : ∃ Q, Q = MQ below (va_Qi (fun _ u => ∃ F : Nat → va_E, u = va_pl L F ∧ mRep k L F a 1 ((sN S)) ((sC S : Int)) A1 A2 A3 A4 A5 A6 A7 A8 A9 A10) (pB D (va_pl L f) s.heap.size) (va_A (va_pl L f) s.heap.size)) ([.ref (a 0), .int (zI (z))] : List Value).toArray s 0 0 (va_A (va_pl L f) s.heap.size) := ⟨_, rfl⟩
  rw [← hQ]
  have hMN := hO.1
  have hMC : 0 ≤ (sC S : Int) ∧ (sC S : Int) ≤ 30 := by have h8 := hO.2.2.2.1; omega
  refine lv_aload_n hx hb dX10_regions_0 rfl (lv_at hl 0 rfl) ?_
  refine lv_iload_n hx hb dX10_regions_1 rfl (lv_at hl 1 rfl) ?_
  refine pc_calli (va_runV (As := [.int (zI (z))]) (rest := []) ⟨hx, hb, hml, hown, hts⟩ (kX10_regionsOneByOne_n l D k L f S hO a tw A1 A2 A3 A4 A5 A6 A7 A8 A9 A10 hM (by omega) hY z hz hz2 n0 _) (cwV 1 hts gX10_regions_X10_regionsOneByOne rfl rfl rfl (by decide +kernel) ⟨Nat.le_of_ble_eq_true rfl, Nat.le_of_ble_eq_true rfl⟩) (pc_preV hC hP (Nat.le_trans hn9 hS.1) hD hAn (pl_recv hK hP (hM.2.2.2.2.2.2.2.2.2.2.2.1 0 (by decide)) hM.1 (ci := 9) (q := (RX10, TX10, 13)) rfl)) rfl rfl hl.1 rfl (lv_room (Nat.le_of_ble_eq_true rfl)) dX10_regions_2 ⟨Nat.zero_le _, Nat.zero_le _⟩) hD hS hA (fun r1 ur1 H locs hr1 hP hD hS hzr1 => ?_)
  rw [hQ]
  exact pc_iret hx hb hrt hP (by rw [← hAd]; exact hD) (by rw [← hAd]; exact hS) (hr1) dX10_regions_5 hlocks

theorem has_reg {S : SA} {G : Nat → Int32} {i : Nat} (hO : aOK S) (hi : i < sC S) (hG : Rp G (sem S i)) {y x : Int} (h : hasB G y x = true) : (0 ≤ y ∧ y ≤ sN S - 1) ∧ y + 1 ≤ x ∧ x ≤ sN S := by
  obtain ⟨h1, h2⟩ := hasB_rng h
  have h3 := semG hO hi y.toNat x.toNat ((hG y.toNat (by omega) x.toNat (by omega)).mp h2)
  have := hO.1
  omega
theorem has_no {S : SA} {G : Nat → Int32} {i : Nat} (hO : aOK S) (hi : i < sC S) (hG : Rp G (sem S i)) {y x : Int} (h : inB y 0 (sN S - 1) = false ∨ inB x (y + 1) (sN S) = false) : hasB G y x = false := by
  cases e : hasB G y x with
  | false => rfl
  | true =>
    have := has_reg hO hi hG e
    rcases h with h | h
    · rw [inB_t this.1] at h; exact h
    · rw [inB_t this.2] at h; exact h
theorem has_yes {S : SA} {G R : Nat → Int32} {i : Nat} (hO : aOK S) (hi : i < sC S) (hG : Rp G (sem S i)) (hQ : Rq R i (sem S i)) {y x : Int} {b : Bool} (h1 : inB y 0 (sN S - 1) = true) (h2 : inB x (y + 1) (sN S) = true) (hb : bt (R (25 * i + y.toNat)) x.toNat = b) : hasB G y x = b := by
  have a1 := inB_i h1
  have a2 := inB_i h2
  have := hO.1
  rw [← hb, rq_row hQ hG (by omega)]
  unfold hasB
  rw [decide_eq_true (by omega), Bool.true_and]

set_option maxHeartbeats 4000000 in
set_option maxRecDepth 100000 in
theorem kX10_has (l : Launch) (D : va_G) (k : Nat → ClassId) (L : List Nat) (f : Nat → va_E) (S : SA) (hO : aOK S) (a : Nat → Nat) (tw : Int) (A1 A2 A3 A4 A5 A6 A7 A8 A9 A10 : Nat → Int32) (hM : mRep k L f a tw ((sN S)) ((sC S : Int)) A1 A2 A3 A4 A5 A6 A7 A8 A9 A10) (hMT : 0 ≤ tw ∧ tw ≤ 3) (hY : mSync S A1 A2 A3 A4 A5 A6 A7) (i : Nat) (hi : i < sC S) (G : Nat → Int32) (hG : Rp G (sem S i)) (y : Int) (hy : -2147483648 ≤ y ∧ y < 2147483648) (x : Int) (hx : -2147483648 ≤ x ∧ x < 2147483648) (n0 sz : Nat) : Met l yX10_has wsX10_has ({ frames := 6, cells := 0, slots := 0, locals := 140 } : Room) (va_Pc [.ref (a 0), .int (zI ((i : Int))), .int (zI (y)), .int (zI (x))] (pPre D (tyL k) n0 (va_pl L f) sz)) (va_Qi (fun r9 u => r9 = bI (hasB G y x) ∧ ∃ (F : Nat → va_E) (N3 R V : Nat → Int32), u = va_pl L F ∧ mRep k L F a 0 ((sN S)) ((sC S : Int)) A1 A2 A3 A4 A5 A6 A7 N3 R V) (pB D (va_pl L f) sz) (va_A (va_pl L f) sz)) 0 0 (va_A (va_pl L f) sz) := by
  refine Met.ofW (cc := cX10_has) (maxL := 5) (ret := (some .boolean)) (by decide) rfl ?_
  intro p e s m args below meth c s₁ B hml hv
  obtain ⟨rfl, hsz, hn9, hP, hC, hD0⟩ := hv
  have hK := hC.1
  have hNW := hC.2.1
  have hx := B.exec
  have hb := B.bytes
  have hrt := B.returns
  have hts := atoms_spec (ws := wsX10_has) B.pre
  have hown : s.vm.findClass RX10 = some m.cls := findClass_of_methodNamed B.named
  have hlocks := B.notSynchronized
  subst hsz
  obtain ⟨A, hAd⟩ : ∃ A, A = va_A (va_pl L f) s.heap.size := ⟨_, rfl⟩
  have hD := hD0.self (sz := s.heap.size)
  rw [← hAd] at hD
  have hA : ∀ q : Nat, s.heap.size ≤ q → A q := fun q h => by rw [hAd]; exact Or.inr h
  have hAn : ∀ q : Nat, A q → n0 ≤ q := fun q h => by
    rw [hAd] at h
    rcases h with ⟨k9, e9, hk9⟩ | h
    · exact hD0.2 k9 _ hk9
    · exact Nat.le_trans hn9 h
  have hS : va_S A s.heap s.heap [] := va_S.rf
  have hi_X10 : ∀ w ∈ u_ws RX10 TX10 13, w ∈ wsX10_has := by decide +kernel
  have hw_0 := hts (.fieldLink RX10 52 "RegionryModel" "length" "I") (by decide +kernel)
  have hl := lv_entry ([.ref (a 0), .int (zI ((i : Int))), .int (zI (y)), .int (zI (x))]) (n := 5) (Nat.le_of_ble_eq_true rfl)
  rw [lg_entry_eq]
  generalize (lg_sl ([.ref (a 0), .int (zI ((i : Int))), .int (zI (y)), .int (zI (x))]) ++ List.replicate (5 - (lg_sl ([.ref (a 0), .int (zI ((i : Int))), .int (zI (y)), .int (zI (x))])).length) Slot.unset).toArray = ls at hl ⊢
  have hl : lv_has ls 5 [(0, .ref (a 0)), (1, .int (zI ((i : Int)))), (2, .int (zI (y))), (3, .int (zI (x)))] := hl
  obtain ⟨Q, hQ⟩ : ∃ Q, Q = MQ below (va_Qi (fun r9 u => r9 = bI (hasB G y x) ∧ ∃ (F : Nat → va_E) (N3 R V : Nat → Int32), u = va_pl L F ∧ mRep k L F a 0 ((sN S)) ((sC S : Int)) A1 A2 A3 A4 A5 A6 A7 N3 R V) (pB D (va_pl L f) s.heap.size) (va_A (va_pl L f) s.heap.size)) ([.ref (a 0), .int (zI ((i : Int))), .int (zI (y)), .int (zI (x))] : List Value).toArray s 0 0 (va_A (va_pl L f) s.heap.size) := ⟨_, rfl⟩
  rw [← hQ]
  have hMN := hO.1
  have hMC : 0 ≤ (sC S : Int) ∧ (sC S : Int) ≤ 30 := by have h8 := hO.2.2.2.1; omega
  refine lv_iload_n hx hb dX10_has_0 rfl (lv_at hl 2 rfl) ?_
  refine zr_const hx hb dX10_has_1 ?_
  refine lv_aload_n hx hb dX10_has_2 rfl (lv_at hl 0 rfl) ?_
  refine pl_get (ci := 9) (v := .int (zI ((sN S)))) (C := RX10) (T := TX10) (N := 13) hx hb hts hi_X10 hown hK hP (hM.2.2.2.2.2.2.2.2.2.2.2.1 0 (by decide)) hM.1 rfl 2 (by decide) hw_0 (fun _ h9 => h9) rfl dX10_has_3 ?_
  refine zr_const hx hb dX10_has_6 ?_
  refine zr_sub hx hb dX10_has_7 ?_
  refine vp_callSi (va_Run.run (va_runS (As := [.int (zI (y)), .int (zI (0)), .int (zI (((sN S)) - 1))]) (rest := []) ⟨hx, hb, hml, hown, hts⟩ (kX10_in l D k L f (y) (by omega) (0) (by omega) (((sN S)) - 1) (by omega)) (va_cwS 3 hts gX10_has_X10_in rfl rfl rfl (by decide +kernel) ⟨Nat.le_of_ble_eq_true rfl, Nat.le_of_ble_eq_true rfl⟩) (rc_preS hC hP) rfl rfl hl.1 rfl (lv_room (Nat.le_of_ble_eq_true rfl)) dX10_has_8 ⟨Nat.zero_le _, Nat.zero_le _⟩)) (fun r1 hr1 => ?_)
  subst hr1
  refine zr_ifb_eq (tgt := 32) hx hb dX10_has_11 (by decide) (fun c2 => ?_) (fun c2 => ?_)
  · have hn_c2 := inB_n c2
    refine zr_const hx hb dX10_has_32 ?_
    refine zr_top (y := bI false) (by decide) ?_
    refine lv_istore (lv' := [(4, .int (bI (false))), (0, .ref (a 0)), (1, .int (zI ((i : Int)))), (2, .int (zI (y))), (3, .int (zI (x)))]) hx hb dX10_has_33 hl (by decide) rfl (fun ls hl => ?_)
    refine lv_aload_n hx hb dX10_has_35 rfl (lv_at hl 1 rfl) ?_
    refine lv_iload_n hx hb dX10_has_36 rfl (lv_at hl 2 rfl) ?_
    refine pc_calli (va_runV (As := [.int (zI ((i : Int)))]) (rest := []) ⟨hx, hb, hml, hown, hts⟩ (kX10_canAsk l D k L f S hO a tw A1 A2 A3 A4 A5 A6 A7 A8 A9 A10 hM (by omega) hY i hi n0 _) (cwV 1 hts gX10_has_X10_canAsk rfl rfl rfl (by decide +kernel) ⟨Nat.le_of_ble_eq_true rfl, Nat.le_of_ble_eq_true rfl⟩) (pc_preV hC hP (Nat.le_trans hn9 hS.1) hD hAn (pl_recv hK hP (hM.2.2.2.2.2.2.2.2.2.2.2.1 0 (by decide)) hM.1 (ci := 9) (q := (RX10, TX10, 13)) rfl)) rfl rfl hl.1 rfl (lv_room (Nat.le_of_ble_eq_true rfl)) dX10_has_37 ⟨Nat.zero_le _, Nat.zero_le _⟩) hD hS hA (fun r3 ur3 H locs hr3 hP hD hS hzr3 => ?_)
    obtain ⟨hvr3, Fr3, Nr3, Rr3, Vr3, hwr3, hMr3, hQr3⟩ := hr3
    have hvr3 : r3 = bI true := hvr3
    subst hvr3
    have hwr3 : ur3 = va_pl L Fr3 := hwr3
    subst hwr3
    refine zr_ifb_eq (tgt := 62) hx hb dX10_has_40 (by decide) (fun c4 => ?_) (fun c4 => ?_)
    · exact absurd c4 (by decide)
    · refine lv_iload hx hb dX10_has_43 (lv_at hl 0 rfl) ?_
      refine zr_ifb_eq (tgt := 62) hx hb dX10_has_45 (by decide) (fun c5 => ?_) (fun c5 => ?_)
      · refine zr_const hx hb dX10_has_62 ?_
        rw [hQ]
        refine zr_top (y := bI (hasB G y x)) (by first | exact bI_t (has_yes hO hi hG hQr3 (by assumption) (by assumption) (by assumption)) | exact bI_f (has_yes hO hi hG hQr3 (by assumption) (by assumption) (by assumption)) | exact bI_f (has_no hO hi hG (Or.inl (by assumption))) | exact bI_f (has_no hO hi hG (Or.inr (by assumption)))) ?_
        exact pc_zret hx hb hrt hP (by rw [← hAd]; exact hD) (by rw [← hAd]; exact hS) (⟨rfl, _, _, _, _, rfl, hMr3⟩) dX10_has_63 hlocks
      · exact absurd c5 (by decide)
  · have hn_c2 := inB_i c2
    refine lv_iload_n hx hb dX10_has_14 rfl (lv_at hl 3 rfl) ?_
    refine lv_iload_n hx hb dX10_has_15 rfl (lv_at hl 2 rfl) ?_
    refine zr_const hx hb dX10_has_16 ?_
    refine zr_add hx hb dX10_has_17 ?_
    refine lv_aload_n hx hb dX10_has_18 rfl (lv_at hl 0 rfl) ?_
    refine pl_get (ci := 9) (v := .int (zI ((sN S)))) (C := RX10) (T := TX10) (N := 13) hx hb hts hi_X10 hown hK hP (hM.2.2.2.2.2.2.2.2.2.2.2.1 0 (by decide)) hM.1 rfl 2 (by decide) hw_0 (fun _ h9 => h9) rfl dX10_has_19 ?_
    refine vp_callSi (va_Run.run (va_runS (As := [.int (zI (x)), .int (zI (y + 1)), .int (zI ((sN S)))]) (rest := []) ⟨hx, hb, hml, hown, hts⟩ (kX10_in l D k L f (x) (by omega) (y + 1) (by omega) ((sN S)) (by omega)) (va_cwS 3 hts gX10_has_X10_in rfl rfl rfl (by decide +kernel) ⟨Nat.le_of_ble_eq_true rfl, Nat.le_of_ble_eq_true rfl⟩) (rc_preS hC hP) rfl rfl hl.1 rfl (lv_room (Nat.le_of_ble_eq_true rfl)) dX10_has_22 ⟨Nat.zero_le _, Nat.zero_le _⟩)) (fun r6 hr6 => ?_)
    subst hr6
    refine zr_ifb_eq (tgt := 32) hx hb dX10_has_25 (by decide) (fun c7 => ?_) (fun c7 => ?_)
    · have hn_c7 := inB_n c7
      refine zr_const hx hb dX10_has_32 ?_
      refine zr_top (y := bI false) (by decide) ?_
      refine lv_istore (lv' := [(4, .int (bI (false))), (0, .ref (a 0)), (1, .int (zI ((i : Int)))), (2, .int (zI (y))), (3, .int (zI (x)))]) hx hb dX10_has_33 hl (by decide) rfl (fun ls hl => ?_)
      refine lv_aload_n hx hb dX10_has_35 rfl (lv_at hl 1 rfl) ?_
      refine lv_iload_n hx hb dX10_has_36 rfl (lv_at hl 2 rfl) ?_
      refine pc_calli (va_runV (As := [.int (zI ((i : Int)))]) (rest := []) ⟨hx, hb, hml, hown, hts⟩ (kX10_canAsk l D k L f S hO a tw A1 A2 A3 A4 A5 A6 A7 A8 A9 A10 hM (by omega) hY i hi n0 _) (cwV 1 hts gX10_has_X10_canAsk rfl rfl rfl (by decide +kernel) ⟨Nat.le_of_ble_eq_true rfl, Nat.le_of_ble_eq_true rfl⟩) (pc_preV hC hP (Nat.le_trans hn9 hS.1) hD hAn (pl_recv hK hP (hM.2.2.2.2.2.2.2.2.2.2.2.1 0 (by decide)) hM.1 (ci := 9) (q := (RX10, TX10, 13)) rfl)) rfl rfl hl.1 rfl (lv_room (Nat.le_of_ble_eq_true rfl)) dX10_has_37 ⟨Nat.zero_le _, Nat.zero_le _⟩) hD hS hA (fun r8 ur8 H locs hr8 hP hD hS hzr8 => ?_)
      obtain ⟨hvr8, Fr8, Nr8, Rr8, Vr8, hwr8, hMr8, hQr8⟩ := hr8
      have hvr8 : r8 = bI true := hvr8
      subst hvr8
      have hwr8 : ur8 = va_pl L Fr8 := hwr8
      subst hwr8
      refine zr_ifb_eq (tgt := 62) hx hb dX10_has_40 (by decide) (fun c9 => ?_) (fun c9 => ?_)
      · exact absurd c9 (by decide)
      · refine lv_iload hx hb dX10_has_43 (lv_at hl 0 rfl) ?_
        refine zr_ifb_eq (tgt := 62) hx hb dX10_has_45 (by decide) (fun c10 => ?_) (fun c10 => ?_)
        · refine zr_const hx hb dX10_has_62 ?_
          rw [hQ]
          refine zr_top (y := bI (hasB G y x)) (by first | exact bI_t (has_yes hO hi hG hQr8 (by assumption) (by assumption) (by assumption)) | exact bI_f (has_yes hO hi hG hQr8 (by assumption) (by assumption) (by assumption)) | exact bI_f (has_no hO hi hG (Or.inl (by assumption))) | exact bI_f (has_no hO hi hG (Or.inr (by assumption)))) ?_
          exact pc_zret hx hb hrt hP (by rw [← hAd]; exact hD) (by rw [← hAd]; exact hS) (⟨rfl, _, _, _, _, rfl, hMr8⟩) dX10_has_63 hlocks
        · exact absurd c10 (by decide)
    · have hn_c7 := inB_i c7
      refine zr_const hx hb dX10_has_28 ?_
      refine lv_goto (tgt := 33) hx hb dX10_has_29 (by decide) ?_
      refine zr_top (y := bI true) (by decide) ?_
      refine lv_istore (lv' := [(4, .int (bI (true))), (0, .ref (a 0)), (1, .int (zI ((i : Int)))), (2, .int (zI (y))), (3, .int (zI (x)))]) hx hb dX10_has_33 hl (by decide) rfl (fun ls hl => ?_)
      refine lv_aload_n hx hb dX10_has_35 rfl (lv_at hl 1 rfl) ?_
      refine lv_iload_n hx hb dX10_has_36 rfl (lv_at hl 2 rfl) ?_
      refine pc_calli (va_runV (As := [.int (zI ((i : Int)))]) (rest := []) ⟨hx, hb, hml, hown, hts⟩ (kX10_canAsk l D k L f S hO a tw A1 A2 A3 A4 A5 A6 A7 A8 A9 A10 hM (by omega) hY i hi n0 _) (cwV 1 hts gX10_has_X10_canAsk rfl rfl rfl (by decide +kernel) ⟨Nat.le_of_ble_eq_true rfl, Nat.le_of_ble_eq_true rfl⟩) (pc_preV hC hP (Nat.le_trans hn9 hS.1) hD hAn (pl_recv hK hP (hM.2.2.2.2.2.2.2.2.2.2.2.1 0 (by decide)) hM.1 (ci := 9) (q := (RX10, TX10, 13)) rfl)) rfl rfl hl.1 rfl (lv_room (Nat.le_of_ble_eq_true rfl)) dX10_has_37 ⟨Nat.zero_le _, Nat.zero_le _⟩) hD hS hA (fun r11 ur11 H locs hr11 hP hD hS hzr11 => ?_)
      obtain ⟨hvr11, Fr11, Nr11, Rr11, Vr11, hwr11, hMr11, hQr11⟩ := hr11
      have hvr11 : r11 = bI true := hvr11
      subst hvr11
      have hwr11 : ur11 = va_pl L Fr11 := hwr11
      subst hwr11
      refine zr_ifb_eq (tgt := 62) hx hb dX10_has_40 (by decide) (fun c12 => ?_) (fun c12 => ?_)
      · exact absurd c12 (by decide)
      · refine lv_iload hx hb dX10_has_43 (lv_at hl 0 rfl) ?_
        refine zr_ifb_eq (tgt := 62) hx hb dX10_has_45 (by decide) (fun c13 => ?_) (fun c13 => ?_)
        · exact absurd c13 (by decide)
        · refine lv_aload_n hx hb dX10_has_48 rfl (lv_at hl 1 rfl) ?_
          refine lv_iload_n hx hb dX10_has_49 rfl (lv_at hl 2 rfl) ?_
          refine lv_iload_n hx hb dX10_has_50 rfl (lv_at hl 3 rfl) ?_
          refine lv_iload_n hx hb dX10_has_51 rfl (lv_at hl 4 rfl) ?_
          have hb1 := inB_i (show inB y 0 (sN S - 1) = true by assumption)
          have hb2 := inB_i (show inB x (y + 1) (sN S) = true by assumption)
          have hh9 := kX10_holds l D k L Fr11 a 0 ((sN S)) ((sC S : Int)) A1 A2 A3 A4 A5 A6 A7 Nr11 Rr11 Vr11 hMr11 (by omega) (by omega) (by omega) i y.toNat x.toNat (by omega) (by omega) (by omega)
          rw [Int.toNat_of_nonneg (by omega), Int.toNat_of_nonneg (by omega)] at hh9
          refine vp_callSi (va_Run.run (va_runV (As := [.int (zI ((i : Int))), .int (zI (y)), .int (zI (x))]) (rest := []) ⟨hx, hb, hml, hown, hts⟩ hh9 (cwV 3 hts gX10_has_X10_holds rfl rfl rfl (by decide +kernel) ⟨Nat.le_of_ble_eq_true rfl, Nat.le_of_ble_eq_true rfl⟩) (rc_preV hC hP (pl_recv hK hP (hMr11.2.2.2.2.2.2.2.2.2.2.2.1 0 (by decide)) hMr11.1 (ci := 9) (q := (RX10, TX10, 13)) rfl)) rfl rfl hl.1 rfl (lv_room (Nat.le_of_ble_eq_true rfl)) dX10_has_52 ⟨Nat.zero_le _, Nat.zero_le _⟩)) (fun r14 hr14 => ?_)
          subst hr14
          refine zr_ifb_eq (tgt := 62) hx hb dX10_has_55 (by decide) (fun c15 => ?_) (fun c15 => ?_)
          · refine zr_const hx hb dX10_has_62 ?_
            rw [hQ]
            refine zr_top (y := bI (hasB G y x)) (by first | exact bI_t (has_yes hO hi hG hQr11 (by assumption) (by assumption) (by assumption)) | exact bI_f (has_yes hO hi hG hQr11 (by assumption) (by assumption) (by assumption)) | exact bI_f (has_no hO hi hG (Or.inl (by assumption))) | exact bI_f (has_no hO hi hG (Or.inr (by assumption)))) ?_
            exact pc_zret hx hb hrt hP (by rw [← hAd]; exact hD) (by rw [← hAd]; exact hS) (⟨rfl, _, _, _, _, rfl, hMr11⟩) dX10_has_63 hlocks
          · refine zr_const hx hb dX10_has_58 ?_
            refine lv_goto (tgt := 63) hx hb dX10_has_59 (by decide) ?_
            rw [hQ]
            refine zr_top (y := bI (hasB G y x)) (by first | exact bI_t (has_yes hO hi hG hQr11 (by assumption) (by assumption) (by assumption)) | exact bI_f (has_yes hO hi hG hQr11 (by assumption) (by assumption) (by assumption)) | exact bI_f (has_no hO hi hG (Or.inl (by assumption))) | exact bI_f (has_no hO hi hG (Or.inr (by assumption)))) ?_
            exact pc_zret hx hb hrt hP (by rw [← hAd]; exact hD) (by rw [← hAd]; exact hS) (⟨rfl, _, _, _, _, rfl, hMr11⟩) dX10_has_63 hlocks

set_option maxHeartbeats 4000000 in
set_option maxRecDepth 100000 in
theorem kX10_has_n (l : Launch) (D : va_G) (k : Nat → ClassId) (L : List Nat) (f : Nat → va_E) (S : SA) (hO : aOK S) (a : Nat → Nat) (tw : Int) (A1 A2 A3 A4 A5 A6 A7 A8 A9 A10 : Nat → Int32) (hM : mRep k L f a tw ((sN S)) ((sC S : Int)) A1 A2 A3 A4 A5 A6 A7 A8 A9 A10) (hMT : 0 ≤ tw ∧ tw ≤ 3) (hY : mSync S A1 A2 A3 A4 A5 A6 A7) (z : Int) (hz : -2147483648 ≤ z ∧ z < 2147483648) (hz2 : ¬ (0 ≤ z ∧ z < (sC S : Int))) (y : Int) (hy : -2147483648 ≤ y ∧ y < 2147483648) (x : Int) (hx : -2147483648 ≤ x ∧ x < 2147483648) (n0 sz : Nat) : Met l yX10_has wsX10_has ({ frames := 3, cells := 0, slots := 0, locals := 64 } : Room) (va_Pc [.ref (a 0), .int (zI (z)), .int (zI (y)), .int (zI (x))] (pPre D (tyL k) n0 (va_pl L f) sz)) (va_Qi (fun _ u => ∃ F : Nat → va_E, u = va_pl L F ∧ mRep k L F a 1 ((sN S)) ((sC S : Int)) A1 A2 A3 A4 A5 A6 A7 A8 A9 A10) (pB D (va_pl L f) sz) (va_A (va_pl L f) sz)) 0 0 (va_A (va_pl L f) sz) := by
  refine Met.ofW (cc := cX10_has) (maxL := 5) (ret := (some .boolean)) (by decide) rfl ?_
  intro p e s m args below meth c s₁ B hml hv
  obtain ⟨rfl, hsz, hn9, hP, hC, hD0⟩ := hv
  have hK := hC.1
  have hNW := hC.2.1
  have hx := B.exec
  have hb := B.bytes
  have hrt := B.returns
  have hts := atoms_spec (ws := wsX10_has) B.pre
  have hown : s.vm.findClass RX10 = some m.cls := findClass_of_methodNamed B.named
  have hlocks := B.notSynchronized
  subst hsz
  obtain ⟨A, hAd⟩ : ∃ A, A = va_A (va_pl L f) s.heap.size := ⟨_, rfl⟩
  have hD := hD0.self (sz := s.heap.size)
  rw [← hAd] at hD
  have hA : ∀ q : Nat, s.heap.size ≤ q → A q := fun q h => by rw [hAd]; exact Or.inr h
  have hAn : ∀ q : Nat, A q → n0 ≤ q := fun q h => by
    rw [hAd] at h
    rcases h with ⟨k9, e9, hk9⟩ | h
    · exact hD0.2 k9 _ hk9
    · exact Nat.le_trans hn9 h
  have hS : va_S A s.heap s.heap [] := va_S.rf
  have hi_X10 : ∀ w ∈ u_ws RX10 TX10 13, w ∈ wsX10_has := by decide +kernel
  have hw_0 := hts (.fieldLink RX10 52 "RegionryModel" "length" "I") (by decide +kernel)
  have hl := lv_entry ([.ref (a 0), .int (zI (z)), .int (zI (y)), .int (zI (x))]) (n := 5) (Nat.le_of_ble_eq_true rfl)
  rw [lg_entry_eq]
  generalize (lg_sl ([.ref (a 0), .int (zI (z)), .int (zI (y)), .int (zI (x))]) ++ List.replicate (5 - (lg_sl ([.ref (a 0), .int (zI (z)), .int (zI (y)), .int (zI (x))])).length) Slot.unset).toArray = ls at hl ⊢
  have hl : lv_has ls 5 [(0, .ref (a 0)), (1, .int (zI (z))), (2, .int (zI (y))), (3, .int (zI (x)))] := hl
  obtain ⟨Q, hQ⟩ : ∃ Q, Q = MQ below (va_Qi (fun _ u => ∃ F : Nat → va_E, u = va_pl L F ∧ mRep k L F a 1 ((sN S)) ((sC S : Int)) A1 A2 A3 A4 A5 A6 A7 A8 A9 A10) (pB D (va_pl L f) s.heap.size) (va_A (va_pl L f) s.heap.size)) ([.ref (a 0), .int (zI (z)), .int (zI (y)), .int (zI (x))] : List Value).toArray s 0 0 (va_A (va_pl L f) s.heap.size) := ⟨_, rfl⟩
  rw [← hQ]
  have hMN := hO.1
  have hMC : 0 ≤ (sC S : Int) ∧ (sC S : Int) ≤ 30 := by have h8 := hO.2.2.2.1; omega
  refine lv_iload_n hx hb dX10_has_0 rfl (lv_at hl 2 rfl) ?_
  refine zr_const hx hb dX10_has_1 ?_
  refine lv_aload_n hx hb dX10_has_2 rfl (lv_at hl 0 rfl) ?_
  refine pl_get (ci := 9) (v := .int (zI ((sN S)))) (C := RX10) (T := TX10) (N := 13) hx hb hts hi_X10 hown hK hP (hM.2.2.2.2.2.2.2.2.2.2.2.1 0 (by decide)) hM.1 rfl 2 (by decide) hw_0 (fun _ h9 => h9) rfl dX10_has_3 ?_
  refine zr_const hx hb dX10_has_6 ?_
  refine zr_sub hx hb dX10_has_7 ?_
  refine vp_callSi (va_Run.run (va_runS (As := [.int (zI (y)), .int (zI (0)), .int (zI (((sN S)) - 1))]) (rest := []) ⟨hx, hb, hml, hown, hts⟩ (kX10_in l D k L f (y) (by omega) (0) (by omega) (((sN S)) - 1) (by omega)) (va_cwS 3 hts gX10_has_X10_in rfl rfl rfl (by decide +kernel) ⟨Nat.le_of_ble_eq_true rfl, Nat.le_of_ble_eq_true rfl⟩) (rc_preS hC hP) rfl rfl hl.1 rfl (lv_room (Nat.le_of_ble_eq_true rfl)) dX10_has_8 ⟨Nat.zero_le _, Nat.zero_le _⟩)) (fun r1 hr1 => ?_)
  subst hr1
  refine zr_ifb_eq (tgt := 32) hx hb dX10_has_11 (by decide) (fun c2 => ?_) (fun c2 => ?_)
  · have hn_c2 := inB_n c2
    refine zr_const hx hb dX10_has_32 ?_
    refine zr_top (y := bI false) (by decide) ?_
    refine lv_istore (lv' := [(4, .int (bI (false))), (0, .ref (a 0)), (1, .int (zI (z))), (2, .int (zI (y))), (3, .int (zI (x)))]) hx hb dX10_has_33 hl (by decide) rfl (fun ls hl => ?_)
    refine lv_aload_n hx hb dX10_has_35 rfl (lv_at hl 1 rfl) ?_
    refine lv_iload_n hx hb dX10_has_36 rfl (lv_at hl 2 rfl) ?_
    refine pc_calli (va_runV (As := [.int (zI (z))]) (rest := []) ⟨hx, hb, hml, hown, hts⟩ (kX10_canAsk_n l D k L f S hO a tw A1 A2 A3 A4 A5 A6 A7 A8 A9 A10 hM (by omega) hY z hz hz2 n0 _) (cwV 1 hts gX10_has_X10_canAsk rfl rfl rfl (by decide +kernel) ⟨Nat.le_of_ble_eq_true rfl, Nat.le_of_ble_eq_true rfl⟩) (pc_preV hC hP (Nat.le_trans hn9 hS.1) hD hAn (pl_recv hK hP (hM.2.2.2.2.2.2.2.2.2.2.2.1 0 (by decide)) hM.1 (ci := 9) (q := (RX10, TX10, 13)) rfl)) rfl rfl hl.1 rfl (lv_room (Nat.le_of_ble_eq_true rfl)) dX10_has_37 ⟨Nat.zero_le _, Nat.zero_le _⟩) hD hS hA (fun r3 ur3 H locs hr3 hP hD hS hzr3 => ?_)
    obtain ⟨hvr3, Fr3, hwr3, hMr3⟩ := hr3
    have hvr3 : r3 = bI false := hvr3
    subst hvr3
    have hwr3 : ur3 = va_pl L Fr3 := hwr3
    subst hwr3
    refine zr_ifb_eq (tgt := 62) hx hb dX10_has_40 (by decide) (fun c4 => ?_) (fun c4 => ?_)
    · refine zr_const hx hb dX10_has_62 ?_
      rw [hQ]
      refine zr_top (y := bI (false)) (by decide) ?_
      exact pc_zret hx hb hrt hP (by rw [← hAd]; exact hD) (by rw [← hAd]; exact hS) (⟨_, rfl, hMr3⟩) dX10_has_63 hlocks
    · exact absurd c4 (by decide)
  · have hn_c2 := inB_i c2
    refine lv_iload_n hx hb dX10_has_14 rfl (lv_at hl 3 rfl) ?_
    refine lv_iload_n hx hb dX10_has_15 rfl (lv_at hl 2 rfl) ?_
    refine zr_const hx hb dX10_has_16 ?_
    refine zr_add hx hb dX10_has_17 ?_
    refine lv_aload_n hx hb dX10_has_18 rfl (lv_at hl 0 rfl) ?_
    refine pl_get (ci := 9) (v := .int (zI ((sN S)))) (C := RX10) (T := TX10) (N := 13) hx hb hts hi_X10 hown hK hP (hM.2.2.2.2.2.2.2.2.2.2.2.1 0 (by decide)) hM.1 rfl 2 (by decide) hw_0 (fun _ h9 => h9) rfl dX10_has_19 ?_
    refine vp_callSi (va_Run.run (va_runS (As := [.int (zI (x)), .int (zI (y + 1)), .int (zI ((sN S)))]) (rest := []) ⟨hx, hb, hml, hown, hts⟩ (kX10_in l D k L f (x) (by omega) (y + 1) (by omega) ((sN S)) (by omega)) (va_cwS 3 hts gX10_has_X10_in rfl rfl rfl (by decide +kernel) ⟨Nat.le_of_ble_eq_true rfl, Nat.le_of_ble_eq_true rfl⟩) (rc_preS hC hP) rfl rfl hl.1 rfl (lv_room (Nat.le_of_ble_eq_true rfl)) dX10_has_22 ⟨Nat.zero_le _, Nat.zero_le _⟩)) (fun r5 hr5 => ?_)
    subst hr5
    refine zr_ifb_eq (tgt := 32) hx hb dX10_has_25 (by decide) (fun c6 => ?_) (fun c6 => ?_)
    · have hn_c6 := inB_n c6
      refine zr_const hx hb dX10_has_32 ?_
      refine zr_top (y := bI false) (by decide) ?_
      refine lv_istore (lv' := [(4, .int (bI (false))), (0, .ref (a 0)), (1, .int (zI (z))), (2, .int (zI (y))), (3, .int (zI (x)))]) hx hb dX10_has_33 hl (by decide) rfl (fun ls hl => ?_)
      refine lv_aload_n hx hb dX10_has_35 rfl (lv_at hl 1 rfl) ?_
      refine lv_iload_n hx hb dX10_has_36 rfl (lv_at hl 2 rfl) ?_
      refine pc_calli (va_runV (As := [.int (zI (z))]) (rest := []) ⟨hx, hb, hml, hown, hts⟩ (kX10_canAsk_n l D k L f S hO a tw A1 A2 A3 A4 A5 A6 A7 A8 A9 A10 hM (by omega) hY z hz hz2 n0 _) (cwV 1 hts gX10_has_X10_canAsk rfl rfl rfl (by decide +kernel) ⟨Nat.le_of_ble_eq_true rfl, Nat.le_of_ble_eq_true rfl⟩) (pc_preV hC hP (Nat.le_trans hn9 hS.1) hD hAn (pl_recv hK hP (hM.2.2.2.2.2.2.2.2.2.2.2.1 0 (by decide)) hM.1 (ci := 9) (q := (RX10, TX10, 13)) rfl)) rfl rfl hl.1 rfl (lv_room (Nat.le_of_ble_eq_true rfl)) dX10_has_37 ⟨Nat.zero_le _, Nat.zero_le _⟩) hD hS hA (fun r7 ur7 H locs hr7 hP hD hS hzr7 => ?_)
      obtain ⟨hvr7, Fr7, hwr7, hMr7⟩ := hr7
      have hvr7 : r7 = bI false := hvr7
      subst hvr7
      have hwr7 : ur7 = va_pl L Fr7 := hwr7
      subst hwr7
      refine zr_ifb_eq (tgt := 62) hx hb dX10_has_40 (by decide) (fun c8 => ?_) (fun c8 => ?_)
      · refine zr_const hx hb dX10_has_62 ?_
        rw [hQ]
        refine zr_top (y := bI (false)) (by decide) ?_
        exact pc_zret hx hb hrt hP (by rw [← hAd]; exact hD) (by rw [← hAd]; exact hS) (⟨_, rfl, hMr7⟩) dX10_has_63 hlocks
      · exact absurd c8 (by decide)
    · have hn_c6 := inB_i c6
      refine zr_const hx hb dX10_has_28 ?_
      refine lv_goto (tgt := 33) hx hb dX10_has_29 (by decide) ?_
      refine zr_top (y := bI true) (by decide) ?_
      refine lv_istore (lv' := [(4, .int (bI (true))), (0, .ref (a 0)), (1, .int (zI (z))), (2, .int (zI (y))), (3, .int (zI (x)))]) hx hb dX10_has_33 hl (by decide) rfl (fun ls hl => ?_)
      refine lv_aload_n hx hb dX10_has_35 rfl (lv_at hl 1 rfl) ?_
      refine lv_iload_n hx hb dX10_has_36 rfl (lv_at hl 2 rfl) ?_
      refine pc_calli (va_runV (As := [.int (zI (z))]) (rest := []) ⟨hx, hb, hml, hown, hts⟩ (kX10_canAsk_n l D k L f S hO a tw A1 A2 A3 A4 A5 A6 A7 A8 A9 A10 hM (by omega) hY z hz hz2 n0 _) (cwV 1 hts gX10_has_X10_canAsk rfl rfl rfl (by decide +kernel) ⟨Nat.le_of_ble_eq_true rfl, Nat.le_of_ble_eq_true rfl⟩) (pc_preV hC hP (Nat.le_trans hn9 hS.1) hD hAn (pl_recv hK hP (hM.2.2.2.2.2.2.2.2.2.2.2.1 0 (by decide)) hM.1 (ci := 9) (q := (RX10, TX10, 13)) rfl)) rfl rfl hl.1 rfl (lv_room (Nat.le_of_ble_eq_true rfl)) dX10_has_37 ⟨Nat.zero_le _, Nat.zero_le _⟩) hD hS hA (fun r9 ur9 H locs hr9 hP hD hS hzr9 => ?_)
      obtain ⟨hvr9, Fr9, hwr9, hMr9⟩ := hr9
      have hvr9 : r9 = bI false := hvr9
      subst hvr9
      have hwr9 : ur9 = va_pl L Fr9 := hwr9
      subst hwr9
      refine zr_ifb_eq (tgt := 62) hx hb dX10_has_40 (by decide) (fun c10 => ?_) (fun c10 => ?_)
      · refine zr_const hx hb dX10_has_62 ?_
        rw [hQ]
        refine zr_top (y := bI (false)) (by decide) ?_
        exact pc_zret hx hb hrt hP (by rw [← hAd]; exact hD) (by rw [← hAd]; exact hS) (⟨_, rfl, hMr9⟩) dX10_has_63 hlocks
      · exact absurd c10 (by decide)

set_option maxHeartbeats 4000000 in
set_option maxRecDepth 100000 in
theorem kX10_covered (l : Launch) (D : va_G) (k : Nat → ClassId) (L : List Nat) (f : Nat → va_E) (S : SA) (hO : aOK S) (a : Nat → Nat) (tw : Int) (A1 A2 A3 A4 A5 A6 A7 A8 A9 A10 : Nat → Int32) (hM : mRep k L f a tw ((sN S)) ((sC S : Int)) A1 A2 A3 A4 A5 A6 A7 A8 A9 A10) (hMT : 0 ≤ tw ∧ tw ≤ 3) (hY : mSync S A1 A2 A3 A4 A5 A6 A7) (i : Nat) (hi : i < sC S) (G : Nat → Int32) (hG : Rp G (sem S i)) (n0 sz : Nat) : Met l yX10_covered wsX10_covered ({ frames := 6, cells := 0, slots := 0, locals := 140 } : Room) (va_Pc [.ref (a 0), .int (zI ((i : Int)))] (pPre D (tyL k) n0 (va_pl L f) sz)) (va_Qi (fun r9 u => r9 = zI ((covN G : Nat) : Int) ∧ ∃ (F : Nat → va_E) (N3 R V : Nat → Int32), u = va_pl L F ∧ mRep k L F a 0 ((sN S)) ((sC S : Int)) A1 A2 A3 A4 A5 A6 A7 N3 R V) (pB D (va_pl L f) sz) (va_A (va_pl L f) sz)) 0 0 (va_A (va_pl L f) sz) := by
  refine Met.ofW (cc := cX10_covered) (maxL := 5) (ret := (some .int)) (by decide) rfl ?_
  intro p e s m args below meth c s₁ B hml hv
  obtain ⟨rfl, hsz, hn9, hP, hC, hD0⟩ := hv
  have hK := hC.1
  have hNW := hC.2.1
  have hx := B.exec
  have hb := B.bytes
  have hrt := B.returns
  have hts := atoms_spec (ws := wsX10_covered) B.pre
  have hown : s.vm.findClass RX10 = some m.cls := findClass_of_methodNamed B.named
  have hlocks := B.notSynchronized
  subst hsz
  obtain ⟨A, hAd⟩ : ∃ A, A = va_A (va_pl L f) s.heap.size := ⟨_, rfl⟩
  have hD := hD0.self (sz := s.heap.size)
  rw [← hAd] at hD
  have hA : ∀ q : Nat, s.heap.size ≤ q → A q := fun q h => by rw [hAd]; exact Or.inr h
  have hAn : ∀ q : Nat, A q → n0 ≤ q := fun q h => by
    rw [hAd] at h
    rcases h with ⟨k9, e9, hk9⟩ | h
    · exact hD0.2 k9 _ hk9
    · exact Nat.le_trans hn9 h
  have hS : va_S A s.heap s.heap [] := va_S.rf
  have hi_X10 : ∀ w ∈ u_ws RX10 TX10 13, w ∈ wsX10_covered := by decide +kernel
  have hw_0 := hts (.fieldLink RX10 52 "RegionryModel" "length" "I") (by decide +kernel)
  have hl := lv_entry ([.ref (a 0), .int (zI ((i : Int)))]) (n := 5) (Nat.le_of_ble_eq_true rfl)
  rw [lg_entry_eq]
  generalize (lg_sl ([.ref (a 0), .int (zI ((i : Int)))]) ++ List.replicate (5 - (lg_sl ([.ref (a 0), .int (zI ((i : Int)))])).length) Slot.unset).toArray = ls at hl ⊢
  have hl : lv_has ls 5 [(0, .ref (a 0)), (1, .int (zI ((i : Int))))] := hl
  obtain ⟨Q, hQ⟩ : ∃ Q, Q = MQ below (va_Qi (fun r9 u => r9 = zI ((covN G : Nat) : Int) ∧ ∃ (F : Nat → va_E) (N3 R V : Nat → Int32), u = va_pl L F ∧ mRep k L F a 0 ((sN S)) ((sC S : Int)) A1 A2 A3 A4 A5 A6 A7 N3 R V) (pB D (va_pl L f) s.heap.size) (va_A (va_pl L f) s.heap.size)) ([.ref (a 0), .int (zI ((i : Int)))] : List Value).toArray s 0 0 (va_A (va_pl L f) s.heap.size) := ⟨_, rfl⟩
  rw [← hQ]
  have hMN := hO.1
  have hMC : 0 ≤ (sC S : Int) ∧ (sC S : Int) ≤ 30 := by have h8 := hO.2.2.2.1; omega
  have hsg := semG hO hi
  have hn24 : (sN S).toNat ≤ 24 := by omega
  refine zr_const hx hb dX10_covered_0 ?_
  refine lv_istore_n (lv' := [(2, .int (zI (0))), (0, .ref (a 0)), (1, .int (zI ((i : Int))))]) hx hb dX10_covered_1 rfl hl (by decide) rfl (fun ls hl => ?_)
  refine lv_aload_n hx hb dX10_covered_2 rfl (lv_at hl 1 rfl) ?_
  refine lv_iload_n hx hb dX10_covered_3 rfl (lv_at hl 2 rfl) ?_
  refine pc_calli (va_runV (As := [.int (zI ((i : Int)))]) (rest := []) ⟨hx, hb, hml, hown, hts⟩ (kX10_canAsk l D k L f S hO a tw A1 A2 A3 A4 A5 A6 A7 A8 A9 A10 hM (by omega) hY i hi n0 _) (cwV 1 hts gX10_covered_X10_canAsk rfl rfl rfl (by decide +kernel) ⟨Nat.le_of_ble_eq_true rfl, Nat.le_of_ble_eq_true rfl⟩) (pc_preV hC hP (Nat.le_trans hn9 hS.1) hD hAn (pl_recv hK hP (hM.2.2.2.2.2.2.2.2.2.2.2.1 0 (by decide)) hM.1 (ci := 9) (q := (RX10, TX10, 13)) rfl)) rfl rfl hl.1 rfl (lv_room (Nat.le_of_ble_eq_true rfl)) dX10_covered_4 ⟨Nat.zero_le _, Nat.zero_le _⟩) hD hS hA (fun r1 ur1 H locs hr1 hP hD hS hzr1 => ?_)
  obtain ⟨hvr1, Fr1, Nr1, Rr1, Vr1, hwr1, hMr1, hQr1⟩ := hr1
  have hvr1 : r1 = bI true := hvr1
  subst hvr1
  have hwr1 : ur1 = va_pl L Fr1 := hwr1
  subst hwr1
  refine lv_istore_n (lv' := [(3, .int (bI (true))), (2, .int (zI (0))), (0, .ref (a 0)), (1, .int (zI ((i : Int))))]) hx hb dX10_covered_7 rfl hl (by decide) rfl (fun ls hl => ?_)
  refine zr_const hx hb dX10_covered_8 ?_
  refine lv_istore (lv' := [(4, .int (zI (0))), (3, .int (bI (true))), (2, .int (zI (0))), (0, .ref (a 0)), (1, .int (zI ((i : Int))))]) hx hb dX10_covered_9 hl (by decide) rfl (fun ls hl => ?_)
  have cut_11 : ∀ (n9 : Nat) (x : Nat) (z4 : Int) (z2 : Int), ((x : Int) ≤ sN S) → (z4 = x) → (z2 = ((fb_ct (fun j => decide (0 < ovN G (j : Int))) x : Nat) : Int)) → sN S - z4 < (n9 : Int) → ∀ (H : Heap) (locs : List Loc), va_P D vwCl (va_pl L Fr1) H → va_D A (va_pl L Fr1) → va_S A s.heap H locs → ∀ (ls : Array Slot), lv_has ls 5 [(0, .ref (a 0)), (1, .int (zI ((i : Int)))), (2, .int (zI (z2))), (3, .int (bI (true))), (4, .int (zI (z4)))] → W p l e (headSpec wsX10_covered ({ frames := 6, cells := 0, slots := 0, locals := 140 } : Room)).room s m ([.ref (a 0), .int (zI ((i : Int)))] : List Value).toArray below meth c H locs 0 0 Q (F0 m 11 ls []) := by
    intro n9
    induction n9 with
    | zero =>
      intro x z4 z2 hk hz4 hz2 hfu
      exact absurd hfu (by omega)
    | succ n9 ih_11 =>
      intro x z4 z2 hk hz4 hz2 hfu H locs hP hD hS ls hl
      refine lv_iload hx hb dX10_covered_11 (lv_at hl 4 rfl) ?_
      refine lv_aload_n hx hb dX10_covered_13 rfl (lv_at hl 0 rfl) ?_
      refine pl_get (ci := 9) (v := .int (zI ((sN S)))) (C := RX10) (T := TX10) (N := 13) hx hb hts hi_X10 hown hK hP (hMr1.2.2.2.2.2.2.2.2.2.2.2.1 0 (by decide)) hMr1.1 rfl 2 (by decide) hw_0 (fun _ h9 => h9) rfl dX10_covered_14 ?_
      refine zr_icmp_ge (tgt := 48) hx hb dX10_covered_17 (by decide) (by omega) (by omega) (fun c2 => ?_) (fun c2 => ?_)
      · refine lv_iload_n hx hb dX10_covered_48 rfl (lv_at hl 2 rfl) ?_
        rw [hQ]
        exact pc_iret hx hb hrt hP (by rw [← hAd]; exact hD) (by rw [← hAd]; exact hS) (⟨by obtain rfl : x = (sN S).toNat := (by omega); rw [hz2, cov_n hsg hn24 (sem24 hO hi) hG], _, _, _, _, rfl, hMr1⟩) dX10_covered_49 hlocks
      · refine lv_iload_n hx hb dX10_covered_20 rfl (lv_at hl 3 rfl) ?_
        refine zr_ifb_eq (tgt := 48) hx hb dX10_covered_21 (by decide) (fun c3 => ?_) (fun c3 => ?_)
        · exact absurd c3 (by decide)
        · refine lv_iload_n hx hb dX10_covered_24 rfl (lv_at hl 2 rfl) ?_
          refine lv_aload_n hx hb dX10_covered_25 rfl (lv_at hl 0 rfl) ?_
          refine lv_iload_n hx hb dX10_covered_26 rfl (lv_at hl 1 rfl) ?_
          refine lv_iload hx hb dX10_covered_27 (lv_at hl 4 rfl) ?_
          rw [show z4 = ((x : Nat) : Int) by omega]
          refine vp_callSi (va_Run.run (va_runV (As := [.int (zI ((i : Int))), .int (zI ((x : Int)))]) (rest := [.int (zI (z2))]) ⟨hx, hb, hml, hown, hts⟩ (kX10_countAt l D k L Fr1 a 0 ((sN S)) ((sC S : Int)) A1 A2 A3 A4 A5 A6 A7 Nr1 Rr1 Vr1 hMr1 (by omega) (by omega) (by omega) i (by omega) (sem S i) G hQr1 (sem24 hO hi) hG x (by omega)) (cwV 2 hts gX10_covered_X10_countAt rfl rfl rfl (by decide +kernel) ⟨Nat.le_of_ble_eq_true rfl, Nat.le_of_ble_eq_true rfl⟩) (rc_preV hC hP (pl_recv hK hP (hMr1.2.2.2.2.2.2.2.2.2.2.2.1 0 (by decide)) hMr1.1 (ci := 9) (q := (RX10, TX10, 13)) rfl)) rfl rfl hl.1 rfl (lv_room (Nat.le_of_ble_eq_true rfl)) dX10_covered_29 ⟨Nat.zero_le _, Nat.zero_le _⟩)) (fun r4 hr4 => ?_)
          subst hr4
          have hov := ovN_le G (z := (x : Int)) (by omega)
          refine zr_if_le (tgt := 39) hx hb dX10_covered_32 (by decide) (by omega) (fun c5 => ?_) (fun c5 => ?_)
          · refine zr_const hx hb dX10_covered_39 ?_
            refine zr_add hx hb dX10_covered_40 ?_
            refine lv_istore_n (lv' := [(2, .int (zI (z2 + 0))), (0, .ref (a 0)), (1, .int (zI ((i : Int)))), (3, .int (bI (true))), (4, .int (zI (z4)))]) hx hb dX10_covered_41 rfl hl (by decide) rfl (fun ls hl => ?_)
            refine zr_iinc (k := 4) (lv' := [(4, .int (zI (z4 + 1))), (2, .int (zI (z2 + 0))), (0, .ref (a 0)), (1, .int (zI ((i : Int)))), (3, .int (bI (true)))]) hx hb dX10_covered_42 hl rfl (by decide) rfl (fun ls hl => ?_)
            refine lv_goto (tgt := 11) hx hb dX10_covered_45 (by decide) ?_
            exact ih_11 (x + 1) (z4 + 1) (z2 + 0) (by omega) (by omega) (by first | (rw [fb_ct_succ, hz2, decide_eq_true (show 0 < ovN G (x : Int) by omega)]; rfl) | (rw [fb_ct_succ, hz2, decide_eq_false (show ¬ 0 < ovN G (x : Int) by omega)]; rfl)) (by omega) _ _ hP hD hS _ (lv_sub hl [2, 3, 1, 4, 0] rfl)
          · refine zr_const hx hb dX10_covered_35 ?_
            refine lv_goto (tgt := 40) hx hb dX10_covered_36 (by decide) ?_
            refine zr_add hx hb dX10_covered_40 ?_
            refine lv_istore_n (lv' := [(2, .int (zI (z2 + 1))), (0, .ref (a 0)), (1, .int (zI ((i : Int)))), (3, .int (bI (true))), (4, .int (zI (z4)))]) hx hb dX10_covered_41 rfl hl (by decide) rfl (fun ls hl => ?_)
            refine zr_iinc (k := 4) (lv' := [(4, .int (zI (z4 + 1))), (2, .int (zI (z2 + 1))), (0, .ref (a 0)), (1, .int (zI ((i : Int)))), (3, .int (bI (true)))]) hx hb dX10_covered_42 hl rfl (by decide) rfl (fun ls hl => ?_)
            refine lv_goto (tgt := 11) hx hb dX10_covered_45 (by decide) ?_
            exact ih_11 (x + 1) (z4 + 1) (z2 + 1) (by omega) (by omega) (by first | (rw [fb_ct_succ, hz2, decide_eq_true (show 0 < ovN G (x : Int) by omega)]; rfl) | (rw [fb_ct_succ, hz2, decide_eq_false (show ¬ 0 < ovN G (x : Int) by omega)]; rfl)) (by omega) _ _ hP hD hS _ (lv_sub hl [2, 3, 1, 4, 0] rfl)
  exact cut_11 ((sN S - (0) : Int).toNat + 1) (0) (0) (0) (by omega) (by omega) (rfl) (by omega) _ _ hP hD hS _ (lv_sub hl [3, 4, 2, 1, 0] rfl)

set_option maxHeartbeats 4000000 in
set_option maxRecDepth 100000 in
theorem kX10_covered_n (l : Launch) (D : va_G) (k : Nat → ClassId) (L : List Nat) (f : Nat → va_E) (S : SA) (hO : aOK S) (a : Nat → Nat) (tw : Int) (A1 A2 A3 A4 A5 A6 A7 A8 A9 A10 : Nat → Int32) (hM : mRep k L f a tw ((sN S)) ((sC S : Int)) A1 A2 A3 A4 A5 A6 A7 A8 A9 A10) (hMT : 0 ≤ tw ∧ tw ≤ 3) (hY : mSync S A1 A2 A3 A4 A5 A6 A7) (z : Int) (hz : -2147483648 ≤ z ∧ z < 2147483648) (hz2 : ¬ (0 ≤ z ∧ z < (sC S : Int))) (n0 sz : Nat) : Met l yX10_covered wsX10_covered ({ frames := 3, cells := 0, slots := 0, locals := 64 } : Room) (va_Pc [.ref (a 0), .int (zI (z))] (pPre D (tyL k) n0 (va_pl L f) sz)) (va_Qi (fun _ u => ∃ F : Nat → va_E, u = va_pl L F ∧ mRep k L F a 1 ((sN S)) ((sC S : Int)) A1 A2 A3 A4 A5 A6 A7 A8 A9 A10) (pB D (va_pl L f) sz) (va_A (va_pl L f) sz)) 0 0 (va_A (va_pl L f) sz) := by
  refine Met.ofW (cc := cX10_covered) (maxL := 5) (ret := (some .int)) (by decide) rfl ?_
  intro p e s m args below meth c s₁ B hml hv
  obtain ⟨rfl, hsz, hn9, hP, hC, hD0⟩ := hv
  have hK := hC.1
  have hNW := hC.2.1
  have hx := B.exec
  have hb := B.bytes
  have hrt := B.returns
  have hts := atoms_spec (ws := wsX10_covered) B.pre
  have hown : s.vm.findClass RX10 = some m.cls := findClass_of_methodNamed B.named
  have hlocks := B.notSynchronized
  subst hsz
  obtain ⟨A, hAd⟩ : ∃ A, A = va_A (va_pl L f) s.heap.size := ⟨_, rfl⟩
  have hD := hD0.self (sz := s.heap.size)
  rw [← hAd] at hD
  have hA : ∀ q : Nat, s.heap.size ≤ q → A q := fun q h => by rw [hAd]; exact Or.inr h
  have hAn : ∀ q : Nat, A q → n0 ≤ q := fun q h => by
    rw [hAd] at h
    rcases h with ⟨k9, e9, hk9⟩ | h
    · exact hD0.2 k9 _ hk9
    · exact Nat.le_trans hn9 h
  have hS : va_S A s.heap s.heap [] := va_S.rf
  have hi_X10 : ∀ w ∈ u_ws RX10 TX10 13, w ∈ wsX10_covered := by decide +kernel
  have hw_0 := hts (.fieldLink RX10 52 "RegionryModel" "length" "I") (by decide +kernel)
  have hl := lv_entry ([.ref (a 0), .int (zI (z))]) (n := 5) (Nat.le_of_ble_eq_true rfl)
  rw [lg_entry_eq]
  generalize (lg_sl ([.ref (a 0), .int (zI (z))]) ++ List.replicate (5 - (lg_sl ([.ref (a 0), .int (zI (z))])).length) Slot.unset).toArray = ls at hl ⊢
  have hl : lv_has ls 5 [(0, .ref (a 0)), (1, .int (zI (z)))] := hl
  obtain ⟨Q, hQ⟩ : ∃ Q, Q = MQ below (va_Qi (fun _ u => ∃ F : Nat → va_E, u = va_pl L F ∧ mRep k L F a 1 ((sN S)) ((sC S : Int)) A1 A2 A3 A4 A5 A6 A7 A8 A9 A10) (pB D (va_pl L f) s.heap.size) (va_A (va_pl L f) s.heap.size)) ([.ref (a 0), .int (zI (z))] : List Value).toArray s 0 0 (va_A (va_pl L f) s.heap.size) := ⟨_, rfl⟩
  rw [← hQ]
  have hMN := hO.1
  have hMC : 0 ≤ (sC S : Int) ∧ (sC S : Int) ≤ 30 := by have h8 := hO.2.2.2.1; omega
  refine zr_const hx hb dX10_covered_0 ?_
  refine lv_istore_n (lv' := [(2, .int (zI (0))), (0, .ref (a 0)), (1, .int (zI (z)))]) hx hb dX10_covered_1 rfl hl (by decide) rfl (fun ls hl => ?_)
  refine lv_aload_n hx hb dX10_covered_2 rfl (lv_at hl 1 rfl) ?_
  refine lv_iload_n hx hb dX10_covered_3 rfl (lv_at hl 2 rfl) ?_
  refine pc_calli (va_runV (As := [.int (zI (z))]) (rest := []) ⟨hx, hb, hml, hown, hts⟩ (kX10_canAsk_n l D k L f S hO a tw A1 A2 A3 A4 A5 A6 A7 A8 A9 A10 hM (by omega) hY z hz hz2 n0 _) (cwV 1 hts gX10_covered_X10_canAsk rfl rfl rfl (by decide +kernel) ⟨Nat.le_of_ble_eq_true rfl, Nat.le_of_ble_eq_true rfl⟩) (pc_preV hC hP (Nat.le_trans hn9 hS.1) hD hAn (pl_recv hK hP (hM.2.2.2.2.2.2.2.2.2.2.2.1 0 (by decide)) hM.1 (ci := 9) (q := (RX10, TX10, 13)) rfl)) rfl rfl hl.1 rfl (lv_room (Nat.le_of_ble_eq_true rfl)) dX10_covered_4 ⟨Nat.zero_le _, Nat.zero_le _⟩) hD hS hA (fun r1 ur1 H locs hr1 hP hD hS hzr1 => ?_)
  obtain ⟨hvr1, Fr1, hwr1, hMr1⟩ := hr1
  have hvr1 : r1 = bI false := hvr1
  subst hvr1
  have hwr1 : ur1 = va_pl L Fr1 := hwr1
  subst hwr1
  refine lv_istore_n (lv' := [(3, .int (bI (false))), (2, .int (zI (0))), (0, .ref (a 0)), (1, .int (zI (z)))]) hx hb dX10_covered_7 rfl hl (by decide) rfl (fun ls hl => ?_)
  refine zr_const hx hb dX10_covered_8 ?_
  refine lv_istore (lv' := [(4, .int (zI (0))), (3, .int (bI (false))), (2, .int (zI (0))), (0, .ref (a 0)), (1, .int (zI (z)))]) hx hb dX10_covered_9 hl (by decide) rfl (fun ls hl => ?_)
  refine lv_iload hx hb dX10_covered_11 (lv_at hl 0 rfl) ?_
  refine lv_aload_n hx hb dX10_covered_13 rfl (lv_at hl 3 rfl) ?_
  refine pl_get (ci := 9) (v := .int (zI ((sN S)))) (C := RX10) (T := TX10) (N := 13) hx hb hts hi_X10 hown hK hP (hMr1.2.2.2.2.2.2.2.2.2.2.2.1 0 (by decide)) hMr1.1 rfl 2 (by decide) hw_0 (fun _ h9 => h9) rfl dX10_covered_14 ?_
  refine zr_icmp_ge (tgt := 48) hx hb dX10_covered_17 (by decide) (by omega) (by omega) (fun c2 => ?_) (fun c2 => ?_)
  · refine lv_iload_n hx hb dX10_covered_48 rfl (lv_at hl 2 rfl) ?_
    rw [hQ]
    exact pc_iret hx hb hrt hP (by rw [← hAd]; exact hD) (by rw [← hAd]; exact hS) (⟨_, rfl, hMr1⟩) dX10_covered_49 hlocks
  · refine lv_iload_n hx hb dX10_covered_20 rfl (lv_at hl 1 rfl) ?_
    refine zr_ifb_eq (tgt := 48) hx hb dX10_covered_21 (by decide) (fun c3 => ?_) (fun c3 => ?_)
    · refine lv_iload_n hx hb dX10_covered_48 rfl (lv_at hl 2 rfl) ?_
      rw [hQ]
      exact pc_iret hx hb hrt hP (by rw [← hAd]; exact hD) (by rw [← hAd]; exact hS) (⟨_, rfl, hMr1⟩) dX10_covered_49 hlocks
    · exact absurd c3 (by decide)

set_option maxHeartbeats 4000000 in
set_option maxRecDepth 100000 in
theorem kX10_deepest (l : Launch) (D : va_G) (k : Nat → ClassId) (L : List Nat) (f : Nat → va_E) (S : SA) (hO : aOK S) (a : Nat → Nat) (tw : Int) (A1 A2 A3 A4 A5 A6 A7 A8 A9 A10 : Nat → Int32) (hM : mRep k L f a tw ((sN S)) ((sC S : Int)) A1 A2 A3 A4 A5 A6 A7 A8 A9 A10) (hMT : 0 ≤ tw ∧ tw ≤ 3) (hY : mSync S A1 A2 A3 A4 A5 A6 A7) (i : Nat) (hi : i < sC S) (G : Nat → Int32) (hG : Rp G (sem S i)) (n0 sz : Nat) : Met l yX10_deepest wsX10_deepest ({ frames := 6, cells := 0, slots := 0, locals := 140 } : Room) (va_Pc [.ref (a 0), .int (zI ((i : Int)))] (pPre D (tyL k) n0 (va_pl L f) sz)) (va_Qi (fun r9 u => r9 = zI ((depN G : Nat) : Int) ∧ ∃ (F : Nat → va_E) (N3 R V : Nat → Int32), u = va_pl L F ∧ mRep k L F a 0 ((sN S)) ((sC S : Int)) A1 A2 A3 A4 A5 A6 A7 N3 R V) (pB D (va_pl L f) sz) (va_A (va_pl L f) sz)) 0 0 (va_A (va_pl L f) sz) := by
  refine Met.ofW (cc := cX10_deepest) (maxL := 6) (ret := (some .int)) (by decide) rfl ?_
  intro p e s m args below meth c s₁ B hml hv
  obtain ⟨rfl, hsz, hn9, hP, hC, hD0⟩ := hv
  have hK := hC.1
  have hNW := hC.2.1
  have hx := B.exec
  have hb := B.bytes
  have hrt := B.returns
  have hts := atoms_spec (ws := wsX10_deepest) B.pre
  have hown : s.vm.findClass RX10 = some m.cls := findClass_of_methodNamed B.named
  have hlocks := B.notSynchronized
  subst hsz
  obtain ⟨A, hAd⟩ : ∃ A, A = va_A (va_pl L f) s.heap.size := ⟨_, rfl⟩
  have hD := hD0.self (sz := s.heap.size)
  rw [← hAd] at hD
  have hA : ∀ q : Nat, s.heap.size ≤ q → A q := fun q h => by rw [hAd]; exact Or.inr h
  have hAn : ∀ q : Nat, A q → n0 ≤ q := fun q h => by
    rw [hAd] at h
    rcases h with ⟨k9, e9, hk9⟩ | h
    · exact hD0.2 k9 _ hk9
    · exact Nat.le_trans hn9 h
  have hS : va_S A s.heap s.heap [] := va_S.rf
  have hi_X10 : ∀ w ∈ u_ws RX10 TX10 13, w ∈ wsX10_deepest := by decide +kernel
  have hw_0 := hts (.fieldLink RX10 52 "RegionryModel" "length" "I") (by decide +kernel)
  have hl := lv_entry ([.ref (a 0), .int (zI ((i : Int)))]) (n := 6) (Nat.le_of_ble_eq_true rfl)
  rw [lg_entry_eq]
  generalize (lg_sl ([.ref (a 0), .int (zI ((i : Int)))]) ++ List.replicate (6 - (lg_sl ([.ref (a 0), .int (zI ((i : Int)))])).length) Slot.unset).toArray = ls at hl ⊢
  have hl : lv_has ls 6 [(0, .ref (a 0)), (1, .int (zI ((i : Int))))] := hl
  obtain ⟨Q, hQ⟩ : ∃ Q, Q = MQ below (va_Qi (fun r9 u => r9 = zI ((depN G : Nat) : Int) ∧ ∃ (F : Nat → va_E) (N3 R V : Nat → Int32), u = va_pl L F ∧ mRep k L F a 0 ((sN S)) ((sC S : Int)) A1 A2 A3 A4 A5 A6 A7 N3 R V) (pB D (va_pl L f) s.heap.size) (va_A (va_pl L f) s.heap.size)) ([.ref (a 0), .int (zI ((i : Int)))] : List Value).toArray s 0 0 (va_A (va_pl L f) s.heap.size) := ⟨_, rfl⟩
  rw [← hQ]
  have hMN := hO.1
  have hMC : 0 ≤ (sC S : Int) ∧ (sC S : Int) ≤ 30 := by have h8 := hO.2.2.2.1; omega
  have hsg := semG hO hi
  have hn24 : (sN S).toNat ≤ 24 := by omega
  refine zr_const hx hb dX10_deepest_0 ?_
  refine lv_istore_n (lv' := [(2, .int (zI (0))), (0, .ref (a 0)), (1, .int (zI ((i : Int))))]) hx hb dX10_deepest_1 rfl hl (by decide) rfl (fun ls hl => ?_)
  refine lv_aload_n hx hb dX10_deepest_2 rfl (lv_at hl 1 rfl) ?_
  refine lv_iload_n hx hb dX10_deepest_3 rfl (lv_at hl 2 rfl) ?_
  refine pc_calli (va_runV (As := [.int (zI ((i : Int)))]) (rest := []) ⟨hx, hb, hml, hown, hts⟩ (kX10_canAsk l D k L f S hO a tw A1 A2 A3 A4 A5 A6 A7 A8 A9 A10 hM (by omega) hY i hi n0 _) (cwV 1 hts gX10_deepest_X10_canAsk rfl rfl rfl (by decide +kernel) ⟨Nat.le_of_ble_eq_true rfl, Nat.le_of_ble_eq_true rfl⟩) (pc_preV hC hP (Nat.le_trans hn9 hS.1) hD hAn (pl_recv hK hP (hM.2.2.2.2.2.2.2.2.2.2.2.1 0 (by decide)) hM.1 (ci := 9) (q := (RX10, TX10, 13)) rfl)) rfl rfl hl.1 rfl (lv_room (Nat.le_of_ble_eq_true rfl)) dX10_deepest_4 ⟨Nat.zero_le _, Nat.zero_le _⟩) hD hS hA (fun r1 ur1 H locs hr1 hP hD hS hzr1 => ?_)
  obtain ⟨hvr1, Fr1, Nr1, Rr1, Vr1, hwr1, hMr1, hQr1⟩ := hr1
  have hvr1 : r1 = bI true := hvr1
  subst hvr1
  have hwr1 : ur1 = va_pl L Fr1 := hwr1
  subst hwr1
  refine lv_istore_n (lv' := [(3, .int (bI (true))), (2, .int (zI (0))), (0, .ref (a 0)), (1, .int (zI ((i : Int))))]) hx hb dX10_deepest_7 rfl hl (by decide) rfl (fun ls hl => ?_)
  refine zr_const hx hb dX10_deepest_8 ?_
  refine lv_istore (lv' := [(4, .int (zI (0))), (3, .int (bI (true))), (2, .int (zI (0))), (0, .ref (a 0)), (1, .int (zI ((i : Int))))]) hx hb dX10_deepest_9 hl (by decide) rfl (fun ls hl => ?_)
  have cut_11 : ∀ (n9 : Nat) (x : Nat) (z4 : Int) (z2 : Int), ((x : Int) ≤ sN S) → (z4 = x) → (z2 = ((mxN (fun j => ovN G (j : Int)) x : Nat) : Int)) → (0 ≤ z2 ∧ z2 ≤ 800) → sN S - z4 < (n9 : Int) → ∀ (H : Heap) (locs : List Loc), va_P D vwCl (va_pl L Fr1) H → va_D A (va_pl L Fr1) → va_S A s.heap H locs → ∀ (ls : Array Slot), lv_has ls 6 [(0, .ref (a 0)), (1, .int (zI ((i : Int)))), (2, .int (zI (z2))), (3, .int (bI (true))), (4, .int (zI (z4)))] → W p l e (headSpec wsX10_deepest ({ frames := 6, cells := 0, slots := 0, locals := 140 } : Room)).room s m ([.ref (a 0), .int (zI ((i : Int)))] : List Value).toArray below meth c H locs 0 0 Q (F0 m 11 ls []) := by
    intro n9
    induction n9 with
    | zero =>
      intro x z4 z2 hk hz4 hz2 hb2 hfu
      exact absurd hfu (by omega)
    | succ n9 ih_11 =>
      intro x z4 z2 hk hz4 hz2 hb2 hfu H locs hP hD hS ls hl
      refine lv_iload hx hb dX10_deepest_11 (lv_at hl 4 rfl) ?_
      refine lv_aload_n hx hb dX10_deepest_13 rfl (lv_at hl 0 rfl) ?_
      refine pl_get (ci := 9) (v := .int (zI ((sN S)))) (C := RX10) (T := TX10) (N := 13) hx hb hts hi_X10 hown hK hP (hMr1.2.2.2.2.2.2.2.2.2.2.2.1 0 (by decide)) hMr1.1 rfl 2 (by decide) hw_0 (fun _ h9 => h9) rfl dX10_deepest_14 ?_
      refine zr_icmp_ge (tgt := 52) hx hb dX10_deepest_17 (by decide) (by omega) (by omega) (fun c2 => ?_) (fun c2 => ?_)
      · refine lv_iload_n hx hb dX10_deepest_52 rfl (lv_at hl 2 rfl) ?_
        rw [hQ]
        exact pc_iret hx hb hrt hP (by rw [← hAd]; exact hD) (by rw [← hAd]; exact hS) (⟨by obtain rfl : x = (sN S).toNat := (by omega); rw [hz2, dep_n hsg hn24 (sem24 hO hi) hG], _, _, _, _, rfl, hMr1⟩) dX10_deepest_53 hlocks
      · refine lv_iload_n hx hb dX10_deepest_20 rfl (lv_at hl 3 rfl) ?_
        refine zr_ifb_eq (tgt := 52) hx hb dX10_deepest_21 (by decide) (fun c3 => ?_) (fun c3 => ?_)
        · exact absurd c3 (by decide)
        · refine lv_aload_n hx hb dX10_deepest_24 rfl (lv_at hl 0 rfl) ?_
          refine lv_iload_n hx hb dX10_deepest_25 rfl (lv_at hl 1 rfl) ?_
          refine lv_iload hx hb dX10_deepest_26 (lv_at hl 4 rfl) ?_
          rw [show z4 = ((x : Nat) : Int) by omega]
          refine vp_callSi (va_Run.run (va_runV (As := [.int (zI ((i : Int))), .int (zI ((x : Int)))]) (rest := []) ⟨hx, hb, hml, hown, hts⟩ (kX10_countAt l D k L Fr1 a 0 ((sN S)) ((sC S : Int)) A1 A2 A3 A4 A5 A6 A7 Nr1 Rr1 Vr1 hMr1 (by omega) (by omega) (by omega) i (by omega) (sem S i) G hQr1 (sem24 hO hi) hG x (by omega)) (cwV 2 hts gX10_deepest_X10_countAt rfl rfl rfl (by decide +kernel) ⟨Nat.le_of_ble_eq_true rfl, Nat.le_of_ble_eq_true rfl⟩) (rc_preV hC hP (pl_recv hK hP (hMr1.2.2.2.2.2.2.2.2.2.2.2.1 0 (by decide)) hMr1.1 (ci := 9) (q := (RX10, TX10, 13)) rfl)) rfl rfl hl.1 rfl (lv_room (Nat.le_of_ble_eq_true rfl)) dX10_deepest_28 ⟨Nat.zero_le _, Nat.zero_le _⟩)) (fun r4 hr4 => ?_)
          subst hr4
          have hov := ovN_le G (z := (x : Int)) (by omega)
          refine lv_istore (lv' := [(5, .int (zI (((ovN G (x : Int) : Nat) : Int)))), (0, .ref (a 0)), (1, .int (zI ((i : Int)))), (2, .int (zI (z2))), (3, .int (bI (true))), (4, .int (zI (z4)))]) hx hb dX10_deepest_31 hl (by decide) rfl (fun ls hl => ?_)
          refine lv_iload hx hb dX10_deepest_33 (lv_at hl 0 rfl) ?_
          refine lv_iload_n hx hb dX10_deepest_35 rfl (lv_at hl 3 rfl) ?_
          refine zr_icmp_le (tgt := 44) hx hb dX10_deepest_36 (by decide) (by omega) (by omega) (fun c5 => ?_) (fun c5 => ?_)
          · refine lv_iload_n hx hb dX10_deepest_44 rfl (lv_at hl 3 rfl) ?_
            refine lv_istore_n (lv' := [(2, .int (zI (z2))), (5, .int (zI (((ovN G (x : Int) : Nat) : Int)))), (0, .ref (a 0)), (1, .int (zI ((i : Int)))), (3, .int (bI (true))), (4, .int (zI (z4)))]) hx hb dX10_deepest_45 rfl hl (by decide) rfl (fun ls hl => ?_)
            refine zr_iinc (k := 5) (lv' := [(4, .int (zI (z4 + 1))), (2, .int (zI (z2))), (5, .int (zI (((ovN G (x : Int) : Nat) : Int)))), (0, .ref (a 0)), (1, .int (zI ((i : Int)))), (3, .int (bI (true)))]) hx hb dX10_deepest_46 hl rfl (by decide) rfl (fun ls hl => ?_)
            refine lv_goto (tgt := 11) hx hb dX10_deepest_49 (by decide) ?_
            exact ih_11 (x + 1) (z4 + 1) (z2) (by omega) (by omega) (by show _ = ((max (mxN (fun j => ovN G (j : Int)) x) (ovN G (x : Int)) : Nat) : Int); omega) (by omega) (by omega) _ _ hP hD hS _ (lv_sub hl [3, 4, 1, 5, 0] rfl)
          · refine lv_iload hx hb dX10_deepest_39 (lv_at hl 0 rfl) ?_
            refine lv_goto (tgt := 45) hx hb dX10_deepest_41 (by decide) ?_
            refine lv_istore_n (lv' := [(2, .int (zI (((ovN G (x : Int) : Nat) : Int)))), (5, .int (zI (((ovN G (x : Int) : Nat) : Int)))), (0, .ref (a 0)), (1, .int (zI ((i : Int)))), (3, .int (bI (true))), (4, .int (zI (z4)))]) hx hb dX10_deepest_45 rfl hl (by decide) rfl (fun ls hl => ?_)
            refine zr_iinc (k := 5) (lv' := [(4, .int (zI (z4 + 1))), (2, .int (zI (((ovN G (x : Int) : Nat) : Int)))), (5, .int (zI (((ovN G (x : Int) : Nat) : Int)))), (0, .ref (a 0)), (1, .int (zI ((i : Int)))), (3, .int (bI (true)))]) hx hb dX10_deepest_46 hl rfl (by decide) rfl (fun ls hl => ?_)
            refine lv_goto (tgt := 11) hx hb dX10_deepest_49 (by decide) ?_
            exact ih_11 (x + 1) (z4 + 1) (((ovN G (x : Int) : Nat) : Int)) (by omega) (by omega) (by show _ = ((max (mxN (fun j => ovN G (j : Int)) x) (ovN G (x : Int)) : Nat) : Int); omega) (by omega) (by omega) _ _ hP hD hS _ (lv_sub hl [3, 4, 1, 5, 0] rfl)
  exact cut_11 ((sN S - (0) : Int).toNat + 1) (0) (0) (0) (by omega) (by omega) (rfl) (by omega) (by omega) _ _ hP hD hS _ (lv_sub hl [3, 4, 2, 1, 0] rfl)

set_option maxHeartbeats 4000000 in
set_option maxRecDepth 100000 in
theorem kX10_deepest_n (l : Launch) (D : va_G) (k : Nat → ClassId) (L : List Nat) (f : Nat → va_E) (S : SA) (hO : aOK S) (a : Nat → Nat) (tw : Int) (A1 A2 A3 A4 A5 A6 A7 A8 A9 A10 : Nat → Int32) (hM : mRep k L f a tw ((sN S)) ((sC S : Int)) A1 A2 A3 A4 A5 A6 A7 A8 A9 A10) (hMT : 0 ≤ tw ∧ tw ≤ 3) (hY : mSync S A1 A2 A3 A4 A5 A6 A7) (z : Int) (hz : -2147483648 ≤ z ∧ z < 2147483648) (hz2 : ¬ (0 ≤ z ∧ z < (sC S : Int))) (n0 sz : Nat) : Met l yX10_deepest wsX10_deepest ({ frames := 3, cells := 0, slots := 0, locals := 64 } : Room) (va_Pc [.ref (a 0), .int (zI (z))] (pPre D (tyL k) n0 (va_pl L f) sz)) (va_Qi (fun _ u => ∃ F : Nat → va_E, u = va_pl L F ∧ mRep k L F a 1 ((sN S)) ((sC S : Int)) A1 A2 A3 A4 A5 A6 A7 A8 A9 A10) (pB D (va_pl L f) sz) (va_A (va_pl L f) sz)) 0 0 (va_A (va_pl L f) sz) := by
  refine Met.ofW (cc := cX10_deepest) (maxL := 6) (ret := (some .int)) (by decide) rfl ?_
  intro p e s m args below meth c s₁ B hml hv
  obtain ⟨rfl, hsz, hn9, hP, hC, hD0⟩ := hv
  have hK := hC.1
  have hNW := hC.2.1
  have hx := B.exec
  have hb := B.bytes
  have hrt := B.returns
  have hts := atoms_spec (ws := wsX10_deepest) B.pre
  have hown : s.vm.findClass RX10 = some m.cls := findClass_of_methodNamed B.named
  have hlocks := B.notSynchronized
  subst hsz
  obtain ⟨A, hAd⟩ : ∃ A, A = va_A (va_pl L f) s.heap.size := ⟨_, rfl⟩
  have hD := hD0.self (sz := s.heap.size)
  rw [← hAd] at hD
  have hA : ∀ q : Nat, s.heap.size ≤ q → A q := fun q h => by rw [hAd]; exact Or.inr h
  have hAn : ∀ q : Nat, A q → n0 ≤ q := fun q h => by
    rw [hAd] at h
    rcases h with ⟨k9, e9, hk9⟩ | h
    · exact hD0.2 k9 _ hk9
    · exact Nat.le_trans hn9 h
  have hS : va_S A s.heap s.heap [] := va_S.rf
  have hi_X10 : ∀ w ∈ u_ws RX10 TX10 13, w ∈ wsX10_deepest := by decide +kernel
  have hw_0 := hts (.fieldLink RX10 52 "RegionryModel" "length" "I") (by decide +kernel)
  have hl := lv_entry ([.ref (a 0), .int (zI (z))]) (n := 6) (Nat.le_of_ble_eq_true rfl)
  rw [lg_entry_eq]
  generalize (lg_sl ([.ref (a 0), .int (zI (z))]) ++ List.replicate (6 - (lg_sl ([.ref (a 0), .int (zI (z))])).length) Slot.unset).toArray = ls at hl ⊢
  have hl : lv_has ls 6 [(0, .ref (a 0)), (1, .int (zI (z)))] := hl
  obtain ⟨Q, hQ⟩ : ∃ Q, Q = MQ below (va_Qi (fun _ u => ∃ F : Nat → va_E, u = va_pl L F ∧ mRep k L F a 1 ((sN S)) ((sC S : Int)) A1 A2 A3 A4 A5 A6 A7 A8 A9 A10) (pB D (va_pl L f) s.heap.size) (va_A (va_pl L f) s.heap.size)) ([.ref (a 0), .int (zI (z))] : List Value).toArray s 0 0 (va_A (va_pl L f) s.heap.size) := ⟨_, rfl⟩
  rw [← hQ]
  have hMN := hO.1
  have hMC : 0 ≤ (sC S : Int) ∧ (sC S : Int) ≤ 30 := by have h8 := hO.2.2.2.1; omega
  refine zr_const hx hb dX10_deepest_0 ?_
  refine lv_istore_n (lv' := [(2, .int (zI (0))), (0, .ref (a 0)), (1, .int (zI (z)))]) hx hb dX10_deepest_1 rfl hl (by decide) rfl (fun ls hl => ?_)
  refine lv_aload_n hx hb dX10_deepest_2 rfl (lv_at hl 1 rfl) ?_
  refine lv_iload_n hx hb dX10_deepest_3 rfl (lv_at hl 2 rfl) ?_
  refine pc_calli (va_runV (As := [.int (zI (z))]) (rest := []) ⟨hx, hb, hml, hown, hts⟩ (kX10_canAsk_n l D k L f S hO a tw A1 A2 A3 A4 A5 A6 A7 A8 A9 A10 hM (by omega) hY z hz hz2 n0 _) (cwV 1 hts gX10_deepest_X10_canAsk rfl rfl rfl (by decide +kernel) ⟨Nat.le_of_ble_eq_true rfl, Nat.le_of_ble_eq_true rfl⟩) (pc_preV hC hP (Nat.le_trans hn9 hS.1) hD hAn (pl_recv hK hP (hM.2.2.2.2.2.2.2.2.2.2.2.1 0 (by decide)) hM.1 (ci := 9) (q := (RX10, TX10, 13)) rfl)) rfl rfl hl.1 rfl (lv_room (Nat.le_of_ble_eq_true rfl)) dX10_deepest_4 ⟨Nat.zero_le _, Nat.zero_le _⟩) hD hS hA (fun r1 ur1 H locs hr1 hP hD hS hzr1 => ?_)
  obtain ⟨hvr1, Fr1, hwr1, hMr1⟩ := hr1
  have hvr1 : r1 = bI false := hvr1
  subst hvr1
  have hwr1 : ur1 = va_pl L Fr1 := hwr1
  subst hwr1
  refine lv_istore_n (lv' := [(3, .int (bI (false))), (2, .int (zI (0))), (0, .ref (a 0)), (1, .int (zI (z)))]) hx hb dX10_deepest_7 rfl hl (by decide) rfl (fun ls hl => ?_)
  refine zr_const hx hb dX10_deepest_8 ?_
  refine lv_istore (lv' := [(4, .int (zI (0))), (3, .int (bI (false))), (2, .int (zI (0))), (0, .ref (a 0)), (1, .int (zI (z)))]) hx hb dX10_deepest_9 hl (by decide) rfl (fun ls hl => ?_)
  refine lv_iload hx hb dX10_deepest_11 (lv_at hl 0 rfl) ?_
  refine lv_aload_n hx hb dX10_deepest_13 rfl (lv_at hl 3 rfl) ?_
  refine pl_get (ci := 9) (v := .int (zI ((sN S)))) (C := RX10) (T := TX10) (N := 13) hx hb hts hi_X10 hown hK hP (hMr1.2.2.2.2.2.2.2.2.2.2.2.1 0 (by decide)) hMr1.1 rfl 2 (by decide) hw_0 (fun _ h9 => h9) rfl dX10_deepest_14 ?_
  refine zr_icmp_ge (tgt := 52) hx hb dX10_deepest_17 (by decide) (by omega) (by omega) (fun c2 => ?_) (fun c2 => ?_)
  · refine lv_iload_n hx hb dX10_deepest_52 rfl (lv_at hl 2 rfl) ?_
    rw [hQ]
    exact pc_iret hx hb hrt hP (by rw [← hAd]; exact hD) (by rw [← hAd]; exact hS) (⟨_, rfl, hMr1⟩) dX10_deepest_53 hlocks
  · refine lv_iload_n hx hb dX10_deepest_20 rfl (lv_at hl 1 rfl) ?_
    refine zr_ifb_eq (tgt := 52) hx hb dX10_deepest_21 (by decide) (fun c3 => ?_) (fun c3 => ?_)
    · refine lv_iload_n hx hb dX10_deepest_52 rfl (lv_at hl 2 rfl) ?_
      rw [hQ]
      exact pc_iret hx hb hrt hP (by rw [← hAd]; exact hD) (by rw [← hAd]; exact hS) (⟨_, rfl, hMr1⟩) dX10_deepest_53 hlocks
    · exact absurd c3 (by decide)

set_option maxHeartbeats 4000000 in
set_option maxRecDepth 100000 in
theorem kX10_longest (l : Launch) (D : va_G) (k : Nat → ClassId) (L : List Nat) (f : Nat → va_E) (S : SA) (hO : aOK S) (a : Nat → Nat) (tw : Int) (A1 A2 A3 A4 A5 A6 A7 A8 A9 A10 : Nat → Int32) (hM : mRep k L f a tw ((sN S)) ((sC S : Int)) A1 A2 A3 A4 A5 A6 A7 A8 A9 A10) (hMT : 0 ≤ tw ∧ tw ≤ 3) (hY : mSync S A1 A2 A3 A4 A5 A6 A7) (i : Nat) (hi : i < sC S) (G : Nat → Int32) (hG : Rp G (sem S i)) (n0 sz : Nat) : Met l yX10_longest wsX10_longest ({ frames := 6, cells := 0, slots := 0, locals := 140 } : Room) (va_Pc [.ref (a 0), .int (zI ((i : Int)))] (pPre D (tyL k) n0 (va_pl L f) sz)) (va_Qi (fun r9 u => r9 = zI (lonI G) ∧ ∃ (F : Nat → va_E) (N3 R V : Nat → Int32), u = va_pl L F ∧ mRep k L F a 0 ((sN S)) ((sC S : Int)) A1 A2 A3 A4 A5 A6 A7 N3 R V) (pB D (va_pl L f) sz) (va_A (va_pl L f) sz)) 0 0 (va_A (va_pl L f) sz) := by
  refine Met.ofW (cc := cX10_longest) (maxL := 6) (ret := (some .int)) (by decide) rfl ?_
  intro p e s m args below meth c s₁ B hml hv
  obtain ⟨rfl, hsz, hn9, hP, hC, hD0⟩ := hv
  have hK := hC.1
  have hNW := hC.2.1
  have hx := B.exec
  have hb := B.bytes
  have hrt := B.returns
  have hts := atoms_spec (ws := wsX10_longest) B.pre
  have hown : s.vm.findClass RX10 = some m.cls := findClass_of_methodNamed B.named
  have hlocks := B.notSynchronized
  subst hsz
  obtain ⟨A, hAd⟩ : ∃ A, A = va_A (va_pl L f) s.heap.size := ⟨_, rfl⟩
  have hD := hD0.self (sz := s.heap.size)
  rw [← hAd] at hD
  have hA : ∀ q : Nat, s.heap.size ≤ q → A q := fun q h => by rw [hAd]; exact Or.inr h
  have hAn : ∀ q : Nat, A q → n0 ≤ q := fun q h => by
    rw [hAd] at h
    rcases h with ⟨k9, e9, hk9⟩ | h
    · exact hD0.2 k9 _ hk9
    · exact Nat.le_trans hn9 h
  have hS : va_S A s.heap s.heap [] := va_S.rf
  have hl := lv_entry ([.ref (a 0), .int (zI ((i : Int)))]) (n := 6) (Nat.le_of_ble_eq_true rfl)
  rw [lg_entry_eq]
  generalize (lg_sl ([.ref (a 0), .int (zI ((i : Int)))]) ++ List.replicate (6 - (lg_sl ([.ref (a 0), .int (zI ((i : Int)))])).length) Slot.unset).toArray = ls at hl ⊢
  have hl : lv_has ls 6 [(0, .ref (a 0)), (1, .int (zI ((i : Int))))] := hl
  obtain ⟨Q, hQ⟩ : ∃ Q, Q = MQ below (va_Qi (fun r9 u => r9 = zI (lonI G) ∧ ∃ (F : Nat → va_E) (N3 R V : Nat → Int32), u = va_pl L F ∧ mRep k L F a 0 ((sN S)) ((sC S : Int)) A1 A2 A3 A4 A5 A6 A7 N3 R V) (pB D (va_pl L f) s.heap.size) (va_A (va_pl L f) s.heap.size)) ([.ref (a 0), .int (zI ((i : Int)))] : List Value).toArray s 0 0 (va_A (va_pl L f) s.heap.size) := ⟨_, rfl⟩
  rw [← hQ]
  have hMN := hO.1
  have hMC : 0 ≤ (sC S : Int) ∧ (sC S : Int) ≤ 30 := by have h8 := hO.2.2.2.1; omega
  refine zr_const hx hb dX10_longest_0 ?_
  refine lv_istore_n (lv' := [(2, .int (zI (0))), (0, .ref (a 0)), (1, .int (zI ((i : Int))))]) hx hb dX10_longest_1 rfl hl (by decide) rfl (fun ls hl => ?_)
  refine lv_aload_n hx hb dX10_longest_2 rfl (lv_at hl 1 rfl) ?_
  refine lv_iload_n hx hb dX10_longest_3 rfl (lv_at hl 2 rfl) ?_
  refine pc_calli (va_runV (As := [.int (zI ((i : Int)))]) (rest := []) ⟨hx, hb, hml, hown, hts⟩ (kX10_canAsk l D k L f S hO a tw A1 A2 A3 A4 A5 A6 A7 A8 A9 A10 hM (by omega) hY i hi n0 _) (cwV 1 hts gX10_longest_X10_canAsk rfl rfl rfl (by decide +kernel) ⟨Nat.le_of_ble_eq_true rfl, Nat.le_of_ble_eq_true rfl⟩) (pc_preV hC hP (Nat.le_trans hn9 hS.1) hD hAn (pl_recv hK hP (hM.2.2.2.2.2.2.2.2.2.2.2.1 0 (by decide)) hM.1 (ci := 9) (q := (RX10, TX10, 13)) rfl)) rfl rfl hl.1 rfl (lv_room (Nat.le_of_ble_eq_true rfl)) dX10_longest_4 ⟨Nat.zero_le _, Nat.zero_le _⟩) hD hS hA (fun r1 ur1 H locs hr1 hP hD hS hzr1 => ?_)
  obtain ⟨hvr1, Fr1, Nr1, Rr1, Vr1, hwr1, hMr1, hQr1⟩ := hr1
  have hvr1 : r1 = bI true := hvr1
  subst hvr1
  have hwr1 : ur1 = va_pl L Fr1 := hwr1
  subst hwr1
  refine lv_istore_n (lv' := [(3, .int (bI (true))), (2, .int (zI (0))), (0, .ref (a 0)), (1, .int (zI ((i : Int))))]) hx hb dX10_longest_7 rfl hl (by decide) rfl (fun ls hl => ?_)
  refine zr_const hx hb dX10_longest_8 ?_
  refine lv_istore (lv' := [(4, .int (zI (0))), (3, .int (bI (true))), (2, .int (zI (0))), (0, .ref (a 0)), (1, .int (zI ((i : Int))))]) hx hb dX10_longest_9 hl (by decide) rfl (fun ls hl => ?_)
  have cut_11 : ∀ (n9 : Nat) (x : Nat) (z4 : Int) (z2 : Int), ((x : Int) ≤ 625) → (z4 = x) → (z2 = mxI (lgF G) x) → (0 ≤ z2 ∧ z2 ≤ 24) → 625 - z4 < (n9 : Int) → ∀ (H : Heap) (locs : List Loc), va_P D vwCl (va_pl L Fr1) H → va_D A (va_pl L Fr1) → va_S A s.heap H locs → ∀ (ls : Array Slot), lv_has ls 6 [(0, .ref (a 0)), (1, .int (zI ((i : Int)))), (2, .int (zI (z2))), (3, .int (bI (true))), (4, .int (zI (z4)))] → W p l e (headSpec wsX10_longest ({ frames := 6, cells := 0, slots := 0, locals := 140 } : Room)).room s m ([.ref (a 0), .int (zI ((i : Int)))] : List Value).toArray below meth c H locs 0 0 Q (F0 m 11 ls []) := by
    intro n9
    induction n9 with
    | zero =>
      intro x z4 z2 hk hz4 hz2 hb2 hfu
      exact absurd hfu (by omega)
    | succ n9 ih_11 =>
      intro x z4 z2 hk hz4 hz2 hb2 hfu H locs hP hD hS ls hl
      refine lv_iload hx hb dX10_longest_11 (lv_at hl 4 rfl) ?_
      refine zr_sipush hx hb dX10_longest_13 (by decide) ?_
      refine zr_icmp_ge (tgt := 73) hx hb dX10_longest_16 (by decide) (by omega) (by omega) (fun c2 => ?_) (fun c2 => ?_)
      · refine lv_iload_n hx hb dX10_longest_73 rfl (lv_at hl 2 rfl) ?_
        rw [hQ]
        exact pc_iret hx hb hrt hP (by rw [← hAd]; exact hD) (by rw [← hAd]; exact hS) (⟨by obtain rfl : x = 625 := (by omega); rw [hz2, lg_lon hG (sem24 hO hi)], _, _, _, _, rfl, hMr1⟩) dX10_longest_74 hlocks
      · refine lv_iload_n hx hb dX10_longest_19 rfl (lv_at hl 3 rfl) ?_
        refine zr_ifb_eq (tgt := 73) hx hb dX10_longest_20 (by decide) (fun c3 => ?_) (fun c3 => ?_)
        · exact absurd c3 (by decide)
        · refine lv_iload hx hb dX10_longest_23 (lv_at hl 4 rfl) ?_
          refine zr_bipush hx hb dX10_longest_25 (by decide) ?_
          refine zr_rem hx hb (by omega) (by omega) dX10_longest_27 ?_
          refine lv_iload hx hb dX10_longest_28 (lv_at hl 4 rfl) ?_
          refine zr_bipush hx hb dX10_longest_30 (by decide) ?_
          refine zr_div hx hb (by omega) (by omega) dX10_longest_32 ?_
          refine zr_sub hx hb dX10_longest_33 ?_
          refine lv_istore (lv' := [(5, .int (zI ((z4 % 25) - (z4 / 25)))), (0, .ref (a 0)), (1, .int (zI ((i : Int)))), (2, .int (zI (z2))), (3, .int (bI (true))), (4, .int (zI (z4)))]) hx hb dX10_longest_34 hl (by decide) rfl (fun ls hl => ?_)
          refine lv_aload_n hx hb dX10_longest_36 rfl (lv_at hl 1 rfl) ?_
          refine lv_iload_n hx hb dX10_longest_37 rfl (lv_at hl 2 rfl) ?_
          refine lv_iload hx hb dX10_longest_38 (lv_at hl 5 rfl) ?_
          refine zr_bipush hx hb dX10_longest_40 (by decide) ?_
          refine zr_div hx hb (by omega) (by omega) dX10_longest_42 ?_
          refine lv_iload hx hb dX10_longest_43 (lv_at hl 5 rfl) ?_
          refine zr_bipush hx hb dX10_longest_45 (by decide) ?_
          refine zr_rem hx hb (by omega) (by omega) dX10_longest_47 ?_
          rw [show z4 / 25 = (((x / 25) : Nat) : Int) by omega]
          rw [show z4 % 25 = (((x % 25) : Nat) : Int) by omega]
          refine vp_callSi (va_Run.run (va_runV (As := [.int (zI ((i : Int))), .int (zI (((x / 25) : Int))), .int (zI (((x % 25) : Int)))]) (rest := []) ⟨hx, hb, hml, hown, hts⟩ (kX10_holds l D k L Fr1 a 0 ((sN S)) ((sC S : Int)) A1 A2 A3 A4 A5 A6 A7 Nr1 Rr1 Vr1 hMr1 (by omega) (by omega) (by omega) i ((x / 25)) ((x % 25)) (by omega) (by omega) (by omega)) (cwV 3 hts gX10_longest_X10_holds rfl rfl rfl (by decide +kernel) ⟨Nat.le_of_ble_eq_true rfl, Nat.le_of_ble_eq_true rfl⟩) (rc_preV hC hP (pl_recv hK hP (hMr1.2.2.2.2.2.2.2.2.2.2.2.1 0 (by decide)) hMr1.1 (ci := 9) (q := (RX10, TX10, 13)) rfl)) rfl rfl hl.1 rfl (lv_room (Nat.le_of_ble_eq_true rfl)) dX10_longest_48 ⟨Nat.zero_le _, Nat.zero_le _⟩)) (fun r4 hr4 => ?_)
          subst hr4
          refine zr_ifb_eq (tgt := 65) hx hb dX10_longest_51 (by decide) (fun c5 => ?_) (fun c5 => ?_)
          · refine lv_iload_n hx hb dX10_longest_65 rfl (lv_at hl 3 rfl) ?_
            refine lv_istore_n (lv' := [(2, .int (zI (z2))), (5, .int (zI ((z4 % 25) - (z4 / 25)))), (0, .ref (a 0)), (1, .int (zI ((i : Int)))), (3, .int (bI (true))), (4, .int (zI (z4)))]) hx hb dX10_longest_66 rfl hl (by decide) rfl (fun ls hl => ?_)
            refine zr_iinc (k := 5) (lv' := [(4, .int (zI (z4 + 1))), (2, .int (zI (z2))), (5, .int (zI ((z4 % 25) - (z4 / 25)))), (0, .ref (a 0)), (1, .int (zI ((i : Int)))), (3, .int (bI (true)))]) hx hb dX10_longest_67 hl rfl (by decide) rfl (fun ls hl => ?_)
            refine lv_goto (tgt := 11) hx hb dX10_longest_70 (by decide) ?_
            exact ih_11 (x + 1) (z4 + 1) (z2) (by omega) (by omega) (by show _ = max (mxI (lgF G) x) (lgF G x); first | (rw [show lgF G x = ((x % 25 : Nat) : Int) - ((x / 25 : Nat) : Int) from if_pos (by rw [← rq_lin hQr1 (sem24 hO hi) hG (by omega)]; assumption)]; omega) | (rw [show lgF G x = 0 from if_neg (fun q8 => b_tf q8 (by rw [← rq_lin hQr1 (sem24 hO hi) hG (by omega)]; assumption))]; omega)) (by omega) (by omega) _ _ hP hD hS _ (lv_sub hl [3, 4, 1, 5, 0] rfl)
          · refine lv_iload hx hb dX10_longest_54 (lv_at hl 0 rfl) ?_
            refine lv_iload_n hx hb dX10_longest_56 rfl (lv_at hl 3 rfl) ?_
            refine zr_icmp_le (tgt := 65) hx hb dX10_longest_57 (by decide) (by omega) (by omega) (fun c6 => ?_) (fun c6 => ?_)
            · refine lv_iload_n hx hb dX10_longest_65 rfl (lv_at hl 3 rfl) ?_
              refine lv_istore_n (lv' := [(2, .int (zI (z2))), (5, .int (zI ((z4 % 25) - (z4 / 25)))), (0, .ref (a 0)), (1, .int (zI ((i : Int)))), (3, .int (bI (true))), (4, .int (zI (z4)))]) hx hb dX10_longest_66 rfl hl (by decide) rfl (fun ls hl => ?_)
              refine zr_iinc (k := 5) (lv' := [(4, .int (zI (z4 + 1))), (2, .int (zI (z2))), (5, .int (zI ((z4 % 25) - (z4 / 25)))), (0, .ref (a 0)), (1, .int (zI ((i : Int)))), (3, .int (bI (true)))]) hx hb dX10_longest_67 hl rfl (by decide) rfl (fun ls hl => ?_)
              refine lv_goto (tgt := 11) hx hb dX10_longest_70 (by decide) ?_
              exact ih_11 (x + 1) (z4 + 1) (z2) (by omega) (by omega) (by show _ = max (mxI (lgF G) x) (lgF G x); first | (rw [show lgF G x = ((x % 25 : Nat) : Int) - ((x / 25 : Nat) : Int) from if_pos (by rw [← rq_lin hQr1 (sem24 hO hi) hG (by omega)]; assumption)]; omega) | (rw [show lgF G x = 0 from if_neg (fun q8 => b_tf q8 (by rw [← rq_lin hQr1 (sem24 hO hi) hG (by omega)]; assumption))]; omega)) (by omega) (by omega) _ _ hP hD hS _ (lv_sub hl [3, 4, 1, 5, 0] rfl)
            · refine lv_iload hx hb dX10_longest_60 (lv_at hl 0 rfl) ?_
              refine lv_goto (tgt := 66) hx hb dX10_longest_62 (by decide) ?_
              refine lv_istore_n (lv' := [(2, .int (zI ((z4 % 25) - (z4 / 25)))), (5, .int (zI ((z4 % 25) - (z4 / 25)))), (0, .ref (a 0)), (1, .int (zI ((i : Int)))), (3, .int (bI (true))), (4, .int (zI (z4)))]) hx hb dX10_longest_66 rfl hl (by decide) rfl (fun ls hl => ?_)
              refine zr_iinc (k := 5) (lv' := [(4, .int (zI (z4 + 1))), (2, .int (zI ((z4 % 25) - (z4 / 25)))), (5, .int (zI ((z4 % 25) - (z4 / 25)))), (0, .ref (a 0)), (1, .int (zI ((i : Int)))), (3, .int (bI (true)))]) hx hb dX10_longest_67 hl rfl (by decide) rfl (fun ls hl => ?_)
              refine lv_goto (tgt := 11) hx hb dX10_longest_70 (by decide) ?_
              exact ih_11 (x + 1) (z4 + 1) ((z4 % 25) - (z4 / 25)) (by omega) (by omega) (by show _ = max (mxI (lgF G) x) (lgF G x); first | (rw [show lgF G x = ((x % 25 : Nat) : Int) - ((x / 25 : Nat) : Int) from if_pos (by rw [← rq_lin hQr1 (sem24 hO hi) hG (by omega)]; assumption)]; omega) | (rw [show lgF G x = 0 from if_neg (fun q8 => b_tf q8 (by rw [← rq_lin hQr1 (sem24 hO hi) hG (by omega)]; assumption))]; omega)) (by omega) (by omega) _ _ hP hD hS _ (lv_sub hl [3, 4, 1, 5, 0] rfl)
  exact cut_11 ((625 - (0) : Int).toNat + 1) (0) (0) (0) (by omega) (by omega) (rfl) (by omega) (by omega) _ _ hP hD hS _ (lv_sub hl [3, 4, 2, 1, 0] rfl)

set_option maxHeartbeats 4000000 in
set_option maxRecDepth 100000 in
theorem kX10_longest_n (l : Launch) (D : va_G) (k : Nat → ClassId) (L : List Nat) (f : Nat → va_E) (S : SA) (hO : aOK S) (a : Nat → Nat) (tw : Int) (A1 A2 A3 A4 A5 A6 A7 A8 A9 A10 : Nat → Int32) (hM : mRep k L f a tw ((sN S)) ((sC S : Int)) A1 A2 A3 A4 A5 A6 A7 A8 A9 A10) (hMT : 0 ≤ tw ∧ tw ≤ 3) (hY : mSync S A1 A2 A3 A4 A5 A6 A7) (z : Int) (hz : -2147483648 ≤ z ∧ z < 2147483648) (hz2 : ¬ (0 ≤ z ∧ z < (sC S : Int))) (n0 sz : Nat) : Met l yX10_longest wsX10_longest ({ frames := 3, cells := 0, slots := 0, locals := 64 } : Room) (va_Pc [.ref (a 0), .int (zI (z))] (pPre D (tyL k) n0 (va_pl L f) sz)) (va_Qi (fun _ u => ∃ F : Nat → va_E, u = va_pl L F ∧ mRep k L F a 1 ((sN S)) ((sC S : Int)) A1 A2 A3 A4 A5 A6 A7 A8 A9 A10) (pB D (va_pl L f) sz) (va_A (va_pl L f) sz)) 0 0 (va_A (va_pl L f) sz) := by
  refine Met.ofW (cc := cX10_longest) (maxL := 6) (ret := (some .int)) (by decide) rfl ?_
  intro p e s m args below meth c s₁ B hml hv
  obtain ⟨rfl, hsz, hn9, hP, hC, hD0⟩ := hv
  have hK := hC.1
  have hNW := hC.2.1
  have hx := B.exec
  have hb := B.bytes
  have hrt := B.returns
  have hts := atoms_spec (ws := wsX10_longest) B.pre
  have hown : s.vm.findClass RX10 = some m.cls := findClass_of_methodNamed B.named
  have hlocks := B.notSynchronized
  subst hsz
  obtain ⟨A, hAd⟩ : ∃ A, A = va_A (va_pl L f) s.heap.size := ⟨_, rfl⟩
  have hD := hD0.self (sz := s.heap.size)
  rw [← hAd] at hD
  have hA : ∀ q : Nat, s.heap.size ≤ q → A q := fun q h => by rw [hAd]; exact Or.inr h
  have hAn : ∀ q : Nat, A q → n0 ≤ q := fun q h => by
    rw [hAd] at h
    rcases h with ⟨k9, e9, hk9⟩ | h
    · exact hD0.2 k9 _ hk9
    · exact Nat.le_trans hn9 h
  have hS : va_S A s.heap s.heap [] := va_S.rf
  have hl := lv_entry ([.ref (a 0), .int (zI (z))]) (n := 6) (Nat.le_of_ble_eq_true rfl)
  rw [lg_entry_eq]
  generalize (lg_sl ([.ref (a 0), .int (zI (z))]) ++ List.replicate (6 - (lg_sl ([.ref (a 0), .int (zI (z))])).length) Slot.unset).toArray = ls at hl ⊢
  have hl : lv_has ls 6 [(0, .ref (a 0)), (1, .int (zI (z)))] := hl
  obtain ⟨Q, hQ⟩ : ∃ Q, Q = MQ below (va_Qi (fun _ u => ∃ F : Nat → va_E, u = va_pl L F ∧ mRep k L F a 1 ((sN S)) ((sC S : Int)) A1 A2 A3 A4 A5 A6 A7 A8 A9 A10) (pB D (va_pl L f) s.heap.size) (va_A (va_pl L f) s.heap.size)) ([.ref (a 0), .int (zI (z))] : List Value).toArray s 0 0 (va_A (va_pl L f) s.heap.size) := ⟨_, rfl⟩
  rw [← hQ]
  have hMN := hO.1
  have hMC : 0 ≤ (sC S : Int) ∧ (sC S : Int) ≤ 30 := by have h8 := hO.2.2.2.1; omega
  refine zr_const hx hb dX10_longest_0 ?_
  refine lv_istore_n (lv' := [(2, .int (zI (0))), (0, .ref (a 0)), (1, .int (zI (z)))]) hx hb dX10_longest_1 rfl hl (by decide) rfl (fun ls hl => ?_)
  refine lv_aload_n hx hb dX10_longest_2 rfl (lv_at hl 1 rfl) ?_
  refine lv_iload_n hx hb dX10_longest_3 rfl (lv_at hl 2 rfl) ?_
  refine pc_calli (va_runV (As := [.int (zI (z))]) (rest := []) ⟨hx, hb, hml, hown, hts⟩ (kX10_canAsk_n l D k L f S hO a tw A1 A2 A3 A4 A5 A6 A7 A8 A9 A10 hM (by omega) hY z hz hz2 n0 _) (cwV 1 hts gX10_longest_X10_canAsk rfl rfl rfl (by decide +kernel) ⟨Nat.le_of_ble_eq_true rfl, Nat.le_of_ble_eq_true rfl⟩) (pc_preV hC hP (Nat.le_trans hn9 hS.1) hD hAn (pl_recv hK hP (hM.2.2.2.2.2.2.2.2.2.2.2.1 0 (by decide)) hM.1 (ci := 9) (q := (RX10, TX10, 13)) rfl)) rfl rfl hl.1 rfl (lv_room (Nat.le_of_ble_eq_true rfl)) dX10_longest_4 ⟨Nat.zero_le _, Nat.zero_le _⟩) hD hS hA (fun r1 ur1 H locs hr1 hP hD hS hzr1 => ?_)
  obtain ⟨hvr1, Fr1, hwr1, hMr1⟩ := hr1
  have hvr1 : r1 = bI false := hvr1
  subst hvr1
  have hwr1 : ur1 = va_pl L Fr1 := hwr1
  subst hwr1
  refine lv_istore_n (lv' := [(3, .int (bI (false))), (2, .int (zI (0))), (0, .ref (a 0)), (1, .int (zI (z)))]) hx hb dX10_longest_7 rfl hl (by decide) rfl (fun ls hl => ?_)
  refine zr_const hx hb dX10_longest_8 ?_
  refine lv_istore (lv' := [(4, .int (zI (0))), (3, .int (bI (false))), (2, .int (zI (0))), (0, .ref (a 0)), (1, .int (zI (z)))]) hx hb dX10_longest_9 hl (by decide) rfl (fun ls hl => ?_)
  refine lv_iload hx hb dX10_longest_11 (lv_at hl 0 rfl) ?_
  refine zr_sipush hx hb dX10_longest_13 (by decide) ?_
  refine zr_icmp_ge (tgt := 73) hx hb dX10_longest_16 (by decide) (by omega) (by omega) (fun c2 => ?_) (fun c2 => ?_)
  · exact absurd c2 (by omega)
  · refine lv_iload_n hx hb dX10_longest_19 rfl (lv_at hl 1 rfl) ?_
    refine zr_ifb_eq (tgt := 73) hx hb dX10_longest_20 (by decide) (fun c3 => ?_) (fun c3 => ?_)
    · refine lv_iload_n hx hb dX10_longest_73 rfl (lv_at hl 2 rfl) ?_
      rw [hQ]
      exact pc_iret hx hb hrt hP (by rw [← hAd]; exact hD) (by rw [← hAd]; exact hS) (⟨_, rfl, hMr1⟩) dX10_longest_74 hlocks
    · exact absurd c3 (by decide)

theorem ra_1 {G : Nat → Int32} {x ay ab : Nat} {y z3 : Int} (hz3 : z3 = y - ((fb_ct (linB G) x : Nat) : Int)) (hq3 : ((fb_ct (linB G) (25 * ay + ab) : Nat) : Int) = y) (hk : x ≤ 25 * ay + ab) (hc : ¬ z3 = 0) : x + 1 ≤ 25 * ay + ab := by
  by_cases e : x = 25 * ay + ab
  · rw [e] at hz3; omega
  · omega
theorem ra_0 {G : Nat → Int32} {x ay ab : Nat} {b : Bool} (hq8 : b = linB G x) (hlab : linB G (25 * ay + ab) = true) (hk : x ≤ 25 * ay + ab) (hc : b = false) : x + 1 ≤ 25 * ay + ab := by
  by_cases e : x = 25 * ay + ab
  · rw [e, hlab, hc] at hq8; exact absurd hq8 (by decide)
  · omega
theorem ra_r {G : Nat → Int32} {x ay ab : Nat} {b : Bool} {y z3 z4 : Int} (hq8 : b = linB G x) (hz3 : z3 = y - ((fb_ct (linB G) x : Nat) : Int)) (hq3 : ((fb_ct (linB G) (25 * ay + ab) : Nat) : Int) = y) (hlab : linB G (25 * ay + ab) = true) (hc : b = true) (hc2 : z3 = 0) (hz4 : z4 = x) (hab : ab ≤ 24) : zI (100 * (z4 / 25) + z4 % 25) = zI (100 * (ay : Int) + (ab : Int)) := by
  have e := fb_ct_kth_one (p := linB G) (i := x) (j := 25 * ay + ab) (by rw [← hq8]; exact hc) hlab (by omega)
  congr 1
  omega

set_option maxHeartbeats 4000000 in
set_option maxRecDepth 100000 in
theorem kX10_regionAt (l : Launch) (D : va_G) (k : Nat → ClassId) (L : List Nat) (f : Nat → va_E) (S : SA) (hO : aOK S) (a : Nat → Nat) (tw : Int) (A1 A2 A3 A4 A5 A6 A7 A8 A9 A10 : Nat → Int32) (hM : mRep k L f a tw ((sN S)) ((sC S : Int)) A1 A2 A3 A4 A5 A6 A7 A8 A9 A10) (hMT : 0 ≤ tw ∧ tw ≤ 3) (hY : mSync S A1 A2 A3 A4 A5 A6 A7) (i : Nat) (hi : i < sC S) (G : Nat → Int32) (hG : Rp G (sem S i)) (y : Int) (hy : -2147483648 ≤ y ∧ y < 2147483648) (ay ab : Nat) (hay : ay < 24) (hab : ab ≤ 24) (hq2 : hasB G (ay : Int) (ab : Int) = true) (hq3 : ((fb_ct (linB G) (25 * ay + ab) : Nat) : Int) = y) (n0 sz : Nat) : Met l yX10_regionAt wsX10_regionAt ({ frames := 5, cells := 0, slots := 0, locals := 119 } : Room) (va_Pc [.ref (a 0), .int (zI ((i : Int))), .int (zI (y))] (pPre D (tyL k) n0 (va_pl L f) sz)) (va_Qi (fun r9 u => r9 = zI (100 * (ay : Int) + (ab : Int)) ∧ ∃ (F : Nat → va_E) (N3 R V : Nat → Int32), u = va_pl L F ∧ mRep k L F a 0 ((sN S)) ((sC S : Int)) A1 A2 A3 A4 A5 A6 A7 N3 R V) (pB D (va_pl L f) sz) (va_A (va_pl L f) sz)) 0 0 (va_A (va_pl L f) sz) := by
  refine Met.ofW (cc := cX10_regionAt) (maxL := 5) (ret := (some .int)) (by decide) rfl ?_
  intro p e s m args below meth c s₁ B hml hv
  obtain ⟨rfl, hsz, hn9, hP, hC, hD0⟩ := hv
  have hK := hC.1
  have hNW := hC.2.1
  have hx := B.exec
  have hb := B.bytes
  have hrt := B.returns
  have hts := atoms_spec (ws := wsX10_regionAt) B.pre
  have hown : s.vm.findClass RX10 = some m.cls := findClass_of_methodNamed B.named
  have hlocks := B.notSynchronized
  subst hsz
  obtain ⟨A, hAd⟩ : ∃ A, A = va_A (va_pl L f) s.heap.size := ⟨_, rfl⟩
  have hD := hD0.self (sz := s.heap.size)
  rw [← hAd] at hD
  have hA : ∀ q : Nat, s.heap.size ≤ q → A q := fun q h => by rw [hAd]; exact Or.inr h
  have hAn : ∀ q : Nat, A q → n0 ≤ q := fun q h => by
    rw [hAd] at h
    rcases h with ⟨k9, e9, hk9⟩ | h
    · exact hD0.2 k9 _ hk9
    · exact Nat.le_trans hn9 h
  have hS : va_S A s.heap s.heap [] := va_S.rf
  have hl := lv_entry ([.ref (a 0), .int (zI ((i : Int))), .int (zI (y))]) (n := 5) (Nat.le_of_ble_eq_true rfl)
  rw [lg_entry_eq]
  generalize (lg_sl ([.ref (a 0), .int (zI ((i : Int))), .int (zI (y))]) ++ List.replicate (5 - (lg_sl ([.ref (a 0), .int (zI ((i : Int))), .int (zI (y))])).length) Slot.unset).toArray = ls at hl ⊢
  have hl : lv_has ls 5 [(0, .ref (a 0)), (1, .int (zI ((i : Int)))), (2, .int (zI (y)))] := hl
  obtain ⟨Q, hQ⟩ : ∃ Q, Q = MQ below (va_Qi (fun r9 u => r9 = zI (100 * (ay : Int) + (ab : Int)) ∧ ∃ (F : Nat → va_E) (N3 R V : Nat → Int32), u = va_pl L F ∧ mRep k L F a 0 ((sN S)) ((sC S : Int)) A1 A2 A3 A4 A5 A6 A7 N3 R V) (pB D (va_pl L f) s.heap.size) (va_A (va_pl L f) s.heap.size)) ([.ref (a 0), .int (zI ((i : Int))), .int (zI (y))] : List Value).toArray s 0 0 (va_A (va_pl L f) s.heap.size) := ⟨_, rfl⟩
  rw [← hQ]
  have hMN := hO.1
  have hMC : 0 ≤ (sC S : Int) ∧ (sC S : Int) ≤ 30 := by have h8 := hO.2.2.2.1; omega
  have hszb := fb_sm_bound (f := fun j => pc1 (G j)) (c := 32) (n := 24) (fun k9 _ => pc1_le _)
  have hszb : sizeR G ≤ 768 := hszb
  have hlab : linB G (25 * ay + ab) = true := by rw [linB_at G (by omega)]; exact hq2
  have hlt9 := lin_lt hG (sem24 hO hi) (q := 25 * ay + ab) (by omega) hlab
  refine lv_aload_n hx hb dX10_regionAt_0 rfl (lv_at hl 0 rfl) ?_
  refine lv_iload_n hx hb dX10_regionAt_1 rfl (lv_at hl 1 rfl) ?_
  refine vp_callSi (va_Run.run (va_runV (As := [.int (zI ((i : Int)))]) (rest := []) ⟨hx, hb, hml, hown, hts⟩ (kX10_isNode l D k L f a tw ((sN S)) ((sC S : Int)) A1 A2 A3 A4 A5 A6 A7 A8 A9 A10 hM (by omega) (by omega) (by omega) ((i : Int)) (by omega)) (cwV 1 hts gX10_regionAt_X10_isNode rfl rfl rfl (by decide +kernel) ⟨Nat.le_of_ble_eq_true rfl, Nat.le_of_ble_eq_true rfl⟩) (rc_preV hC hP (pl_recv hK hP (hM.2.2.2.2.2.2.2.2.2.2.2.1 0 (by decide)) hM.1 (ci := 9) (q := (RX10, TX10, 13)) rfl)) rfl rfl hl.1 rfl (lv_room (Nat.le_of_ble_eq_true rfl)) dX10_regionAt_2 ⟨Nat.zero_le _, Nat.zero_le _⟩)) (fun r1 hr1 => ?_)
  subst hr1
  refine zr_ifb_eq (tgt := 13) hx hb dX10_regionAt_5 (by decide) (fun c2 => ?_) (fun c2 => ?_)
  · have hn_c2 := inB_n c2
    exact (b_tf (inB_t (by omega)) c2).elim
  · have hn_c2 := inB_i c2
    refine lv_aload_n hx hb dX10_regionAt_8 rfl (lv_at hl 0 rfl) ?_
    refine lv_iload_n hx hb dX10_regionAt_9 rfl (lv_at hl 1 rfl) ?_
    refine pc_callv (va_runV (As := [.int (zI ((i : Int)))]) (rest := []) ⟨hx, hb, hml, hown, hts⟩ (kX10_lay l D k L f S hO a tw A1 A2 A3 A4 A5 A6 A7 A8 A9 A10 hM (by omega) hY i hi n0 _) (cwV 1 hts gX10_regionAt_X10_lay rfl rfl rfl (by decide +kernel) ⟨Nat.le_of_ble_eq_true rfl, Nat.le_of_ble_eq_true rfl⟩) (pc_preV hC hP (Nat.le_trans hn9 hS.1) hD hAn (pl_recv hK hP (hM.2.2.2.2.2.2.2.2.2.2.2.1 0 (by decide)) hM.1 (ci := 9) (q := (RX10, TX10, 13)) rfl)) rfl rfl hl.1 rfl (lv_room (Nat.le_of_ble_eq_true rfl)) dX10_regionAt_10 ⟨Nat.zero_le _, Nat.zero_le _⟩) hD hS hA (fun ur3 H locs hr3 hP hD hS hzr3 => ?_)
    obtain ⟨Fr3, Nr3, Rr3, Vr3, hwr3, hMr3, hQr3⟩ := hr3
    have hwr3 : ur3 = va_pl L Fr3 := hwr3
    subst hwr3
    refine lv_aload_n hx hb dX10_regionAt_13 rfl (lv_at hl 0 rfl) ?_
    refine lv_aload_n hx hb dX10_regionAt_14 rfl (lv_at hl 0 rfl) ?_
    refine lv_iload_n hx hb dX10_regionAt_15 rfl (lv_at hl 1 rfl) ?_
    refine vp_callSi (va_Run.run (va_runV (As := [.int (zI ((i : Int)))]) (rest := [.ref (a 0)]) ⟨hx, hb, hml, hown, hts⟩ (kX10_isNode l D k L Fr3 a tw ((sN S)) ((sC S : Int)) A1 A2 A3 A4 A5 A6 A7 Nr3 Rr3 Vr3 hMr3 (by omega) (by omega) (by omega) ((i : Int)) (by omega)) (cwV 1 hts gX10_regionAt_X10_isNode rfl rfl rfl (by decide +kernel) ⟨Nat.le_of_ble_eq_true rfl, Nat.le_of_ble_eq_true rfl⟩) (rc_preV hC hP (pl_recv hK hP (hMr3.2.2.2.2.2.2.2.2.2.2.2.1 0 (by decide)) hMr3.1 (ci := 9) (q := (RX10, TX10, 13)) rfl)) rfl rfl hl.1 rfl (lv_room (Nat.le_of_ble_eq_true rfl)) dX10_regionAt_16 ⟨Nat.zero_le _, Nat.zero_le _⟩)) (fun r4 hr4 => ?_)
    subst hr4
    refine zr_ifb_eq (tgt := 41) hx hb dX10_regionAt_19 (by decide) (fun c5 => ?_) (fun c5 => ?_)
    · have hn_c5 := inB_n c5
      exact (b_tf (inB_t (by omega)) c5).elim
    · have hn_c5 := inB_i c5
      refine lv_iload_n hx hb dX10_regionAt_22 rfl (lv_at hl 2 rfl) ?_
      refine zr_const hx hb dX10_regionAt_23 ?_
      refine lv_aload_n hx hb dX10_regionAt_24 rfl (lv_at hl 0 rfl) ?_
      refine lv_iload_n hx hb dX10_regionAt_25 rfl (lv_at hl 1 rfl) ?_
      refine vp_callSi (va_Run.run (va_runV (As := [.int (zI ((i : Int)))]) (rest := [.int (zI (0)), .int (zI (y)), .ref (a 0)]) ⟨hx, hb, hml, hown, hts⟩ (kX10_countRegions l D k L Fr3 a tw ((sN S)) ((sC S : Int)) A1 A2 A3 A4 A5 A6 A7 Nr3 Rr3 Vr3 hMr3 (by omega) (by omega) (by omega) i (by omega) (sem S i) G hQr3 (sem24 hO hi) hG) (cwV 1 hts gX10_regionAt_X10_countRegions rfl rfl rfl (by decide +kernel) ⟨Nat.le_of_ble_eq_true rfl, Nat.le_of_ble_eq_true rfl⟩) (rc_preV hC hP (pl_recv hK hP (hMr3.2.2.2.2.2.2.2.2.2.2.2.1 0 (by decide)) hMr3.1 (ci := 9) (q := (RX10, TX10, 13)) rfl)) rfl rfl hl.1 rfl (lv_room (Nat.le_of_ble_eq_true rfl)) dX10_regionAt_26 ⟨Nat.zero_le _, Nat.zero_le _⟩)) (fun r6 hr6 => ?_)
      subst hr6
      refine zr_const hx hb dX10_regionAt_29 ?_
      refine zr_sub hx hb dX10_regionAt_30 ?_
      refine vp_callSi (va_Run.run (va_runS (As := [.int (zI (y)), .int (zI (0)), .int (zI ((((sizeR G : Nat) : Int)) - 1))]) (rest := [.ref (a 0)]) ⟨hx, hb, hml, hown, hts⟩ (kX10_in l D k L Fr3 (y) (by omega) (0) (by omega) ((((sizeR G : Nat) : Int)) - 1) (by omega)) (va_cwS 3 hts gX10_regionAt_X10_in rfl rfl rfl (by decide +kernel) ⟨Nat.le_of_ble_eq_true rfl, Nat.le_of_ble_eq_true rfl⟩) (rc_preS hC hP) rfl rfl hl.1 rfl (lv_room (Nat.le_of_ble_eq_true rfl)) dX10_regionAt_31 ⟨Nat.zero_le _, Nat.zero_le _⟩)) (fun r7 hr7 => ?_)
      subst hr7
      refine zr_ifb_eq (tgt := 41) hx hb dX10_regionAt_34 (by decide) (fun c8 => ?_) (fun c8 => ?_)
      · have hn_c8 := inB_n c8
        exact (b_tf (inB_t (by omega)) c8).elim
      · have hn_c8 := inB_i c8
        refine zr_const hx hb dX10_regionAt_37 ?_
        refine lv_goto (tgt := 42) hx hb dX10_regionAt_38 (by decide) ?_
        refine pc_calli (va_runV (As := [.int (zI (0))]) (rest := []) ⟨hx, hb, hml, hown, hts⟩ (kX10_goesWell l D k L Fr3 a tw ((sN S)) ((sC S : Int)) A1 A2 A3 A4 A5 A6 A7 Nr3 Rr3 Vr3 hMr3 (by omega) (by omega) (by omega) (0) (by omega) n0 _) (cwV 1 hts gX10_regionAt_X10_goesWell rfl rfl rfl (by decide +kernel) ⟨Nat.le_of_ble_eq_true rfl, Nat.le_of_ble_eq_true rfl⟩) (pc_preV hC hP (Nat.le_trans hn9 hS.1) hD hAn (pl_recv hK hP (hMr3.2.2.2.2.2.2.2.2.2.2.2.1 0 (by decide)) hMr3.1 (ci := 9) (q := (RX10, TX10, 13)) rfl)) rfl rfl hl.1 rfl (lv_room (Nat.le_of_ble_eq_true rfl)) dX10_regionAt_42 ⟨Nat.zero_le _, Nat.zero_le _⟩) hD hS hA (fun r9 ur9 H locs hr9 hP hD hS hzr9 => ?_)
        obtain ⟨hvr9, Fr9, hwr9, hMr9⟩ := hr9
        have hvr9 : r9 = bI (decide ((0 : Int) = 0)) := hvr9
        subst hvr9
        have hwr9 : ur9 = va_pl L Fr9 := hwr9
        subst hwr9
        refine zr_ifb_ne (tgt := 50) hx hb dX10_regionAt_45 (by decide) (fun c10 => ?_) (fun c10 => ?_)
        · refine lv_iload_n hx hb dX10_regionAt_50 rfl (lv_at hl 2 rfl) ?_
          refine lv_istore_n (lv' := [(3, .int (zI (y))), (0, .ref (a 0)), (1, .int (zI ((i : Int)))), (2, .int (zI (y)))]) hx hb dX10_regionAt_51 rfl hl (by decide) rfl (fun ls hl => ?_)
          refine zr_const hx hb dX10_regionAt_52 ?_
          refine lv_istore (lv' := [(4, .int (zI (0))), (3, .int (zI (y))), (0, .ref (a 0)), (1, .int (zI ((i : Int)))), (2, .int (zI (y)))]) hx hb dX10_regionAt_53 hl (by decide) rfl (fun ls hl => ?_)
          have cut_55 : ∀ (n9 : Nat) (x : Nat) (z4 : Int) (z3 : Int), (x ≤ 25 * ay + ab) → (z4 = x) → (z3 = y - ((fb_ct (linB G) x : Nat) : Int)) → 625 - z4 < (n9 : Int) → ∀ (H : Heap) (locs : List Loc), va_P D vwCl (va_pl L Fr9) H → va_D A (va_pl L Fr9) → va_S A s.heap H locs → ∀ (ls : Array Slot), lv_has ls 5 [(0, .ref (a 0)), (1, .int (zI ((i : Int)))), (3, .int (zI (z3))), (4, .int (zI (z4)))] → W p l e (headSpec wsX10_regionAt ({ frames := 5, cells := 0, slots := 0, locals := 119 } : Room)).room s m ([.ref (a 0), .int (zI ((i : Int))), .int (zI (y))] : List Value).toArray below meth c H locs 0 0 Q (F0 m 55 ls []) := by
            intro n9
            induction n9 with
            | zero =>
              intro x z4 z3 hk hz4 hz3 hfu
              exact absurd hfu (by omega)
            | succ n9 ih_55 =>
              intro x z4 z3 hk hz4 hz3 hfu H locs hP hD hS ls hl
              refine lv_iload hx hb dX10_regionAt_55 (lv_at hl 3 rfl) ?_
              refine zr_sipush hx hb dX10_regionAt_57 (by decide) ?_
              refine zr_icmp_ge (tgt := 109) hx hb dX10_regionAt_60 (by decide) (by omega) (by omega) (fun c11 => ?_) (fun c11 => ?_)
              · exfalso; omega
              · refine lv_aload_n hx hb dX10_regionAt_63 rfl (lv_at hl 0 rfl) ?_
                refine lv_iload_n hx hb dX10_regionAt_64 rfl (lv_at hl 1 rfl) ?_
                refine lv_iload hx hb dX10_regionAt_65 (lv_at hl 3 rfl) ?_
                refine zr_bipush hx hb dX10_regionAt_67 (by decide) ?_
                refine zr_div hx hb (by omega) (by omega) dX10_regionAt_69 ?_
                refine lv_iload hx hb dX10_regionAt_70 (lv_at hl 3 rfl) ?_
                refine zr_bipush hx hb dX10_regionAt_72 (by decide) ?_
                refine zr_rem hx hb (by omega) (by omega) dX10_regionAt_74 ?_
                have hq8 := rq_lin hQr3 (sem24 hO hi) hG (q := x) (by omega)
                rw [show z4 / 25 = (((x / 25) : Nat) : Int) by omega]
                rw [show z4 % 25 = (((x % 25) : Nat) : Int) by omega]
                refine vp_callSi (va_Run.run (va_runV (As := [.int (zI ((i : Int))), .int (zI (((x / 25) : Int))), .int (zI (((x % 25) : Int)))]) (rest := []) ⟨hx, hb, hml, hown, hts⟩ (kX10_holds l D k L Fr9 a 0 ((sN S)) ((sC S : Int)) A1 A2 A3 A4 A5 A6 A7 Nr3 Rr3 Vr3 hMr9 (by omega) (by omega) (by omega) i ((x / 25)) ((x % 25)) (by omega) (by omega) (by omega)) (cwV 3 hts gX10_regionAt_X10_holds rfl rfl rfl (by decide +kernel) ⟨Nat.le_of_ble_eq_true rfl, Nat.le_of_ble_eq_true rfl⟩) (rc_preV hC hP (pl_recv hK hP (hMr9.2.2.2.2.2.2.2.2.2.2.2.1 0 (by decide)) hMr9.1 (ci := 9) (q := (RX10, TX10, 13)) rfl)) rfl rfl hl.1 rfl (lv_room (Nat.le_of_ble_eq_true rfl)) dX10_regionAt_75 ⟨Nat.zero_le _, Nat.zero_le _⟩)) (fun r12 hr12 => ?_)
                subst hr12
                refine zr_ifb_eq (tgt := 103) hx hb dX10_regionAt_78 (by decide) (fun c13 => ?_) (fun c13 => ?_)
                · refine zr_iinc (k := 3) (lv' := [(4, .int (zI (z4 + 1))), (0, .ref (a 0)), (1, .int (zI ((i : Int)))), (3, .int (zI (z3)))]) hx hb dX10_regionAt_103 hl rfl (by decide) rfl (fun ls hl => ?_)
                  refine lv_goto (tgt := 55) hx hb dX10_regionAt_106 (by decide) ?_
                  exact ih_55 (x + 1) (z4 + 1) (z3) (by first | exact ra_1 hz3 hq3 hk (by assumption) | exact ra_0 hq8 hlab hk (by assumption)) (by omega) (by first | (rw [fb_ct_succ, if_pos (hq8.symm.trans (by assumption))]; omega) | (rw [fb_ct_succ, if_neg (fun q7 => b_tf q7 (hq8.symm.trans (by assumption)))]; omega)) (by omega) _ _ hP hD hS _ (lv_sub hl [1, 2, 3, 0] rfl)
                · have hfb := fb_ct_mono (linB G) hk
                  refine lv_iload_n hx hb dX10_regionAt_81 rfl (lv_at hl 2 rfl) ?_
                  refine zr_if_ne (tgt := 100) hx hb dX10_regionAt_82 (by decide) (by omega) (fun c14 => ?_) (fun c14 => ?_)
                  · refine zr_iinc (k := 2) (lv' := [(3, .int (zI (z3 + (-1)))), (0, .ref (a 0)), (1, .int (zI ((i : Int)))), (4, .int (zI (z4)))]) hx hb dX10_regionAt_100 hl rfl (by decide) rfl (fun ls hl => ?_)
                    refine zr_iinc (k := 3) (lv' := [(4, .int (zI (z4 + 1))), (3, .int (zI (z3 + (-1)))), (0, .ref (a 0)), (1, .int (zI ((i : Int))))]) hx hb dX10_regionAt_103 hl rfl (by decide) rfl (fun ls hl => ?_)
                    refine lv_goto (tgt := 55) hx hb dX10_regionAt_106 (by decide) ?_
                    exact ih_55 (x + 1) (z4 + 1) (z3 + (-1)) (by first | exact ra_1 hz3 hq3 hk (by assumption) | exact ra_0 hq8 hlab hk (by assumption)) (by omega) (by first | (rw [fb_ct_succ, if_pos (hq8.symm.trans (by assumption))]; omega) | (rw [fb_ct_succ, if_neg (fun q7 => b_tf q7 (hq8.symm.trans (by assumption)))]; omega)) (by omega) _ _ hP hD hS _ (lv_sub hl [2, 3, 1, 0] rfl)
                  · refine zr_bipush hx hb dX10_regionAt_85 (by decide) ?_
                    refine lv_iload hx hb dX10_regionAt_87 (lv_at hl 3 rfl) ?_
                    refine zr_bipush hx hb dX10_regionAt_89 (by decide) ?_
                    refine zr_div hx hb (by omega) (by omega) dX10_regionAt_91 ?_
                    refine zr_mul hx hb dX10_regionAt_92 ?_
                    refine lv_iload hx hb dX10_regionAt_93 (lv_at hl 3 rfl) ?_
                    refine zr_bipush hx hb dX10_regionAt_95 (by decide) ?_
                    refine zr_rem hx hb (by omega) (by omega) dX10_regionAt_97 ?_
                    refine zr_add hx hb dX10_regionAt_98 ?_
                    rw [hQ]
                    exact pc_iret hx hb hrt hP (by rw [← hAd]; exact hD) (by rw [← hAd]; exact hS) (⟨ra_r hq8 hz3 hq3 hlab (by assumption) (by assumption) hz4 hab, _, _, _, _, rfl, hMr9⟩) dX10_regionAt_99 hlocks
          exact cut_55 ((625 - (0) : Int).toNat + 1) (0) (0) (y) (Nat.zero_le _) (by omega) (by show y = y - 0; omega) (by omega) _ _ hP hD hS _ (lv_sub hl [2, 3, 1, 0] rfl)
        · exact absurd c10 (by decide)

set_option maxHeartbeats 4000000 in
set_option maxRecDepth 100000 in
theorem kX10_regionAt_n2 (l : Launch) (D : va_G) (k : Nat → ClassId) (L : List Nat) (f : Nat → va_E) (S : SA) (hO : aOK S) (a : Nat → Nat) (tw : Int) (A1 A2 A3 A4 A5 A6 A7 A8 A9 A10 : Nat → Int32) (hM : mRep k L f a tw ((sN S)) ((sC S : Int)) A1 A2 A3 A4 A5 A6 A7 A8 A9 A10) (hMT : 0 ≤ tw ∧ tw ≤ 3) (hY : mSync S A1 A2 A3 A4 A5 A6 A7) (i : Nat) (hi : i < sC S) (G : Nat → Int32) (hG : Rp G (sem S i)) (y : Int) (hy : -2147483648 ≤ y ∧ y < 2147483648) (hno : ¬ (0 ≤ y ∧ y < ((sizeR G : Nat) : Int))) (n0 sz : Nat) : Met l yX10_regionAt wsX10_regionAt ({ frames := 5, cells := 0, slots := 0, locals := 119 } : Room) (va_Pc [.ref (a 0), .int (zI ((i : Int))), .int (zI (y))] (pPre D (tyL k) n0 (va_pl L f) sz)) (va_Qi (fun _ u => ∃ (F : Nat → va_E) (N3 R V : Nat → Int32), u = va_pl L F ∧ mRep k L F a 1 ((sN S)) ((sC S : Int)) A1 A2 A3 A4 A5 A6 A7 N3 R V) (pB D (va_pl L f) sz) (va_A (va_pl L f) sz)) 0 0 (va_A (va_pl L f) sz) := by
  refine Met.ofW (cc := cX10_regionAt) (maxL := 5) (ret := (some .int)) (by decide) rfl ?_
  intro p e s m args below meth c s₁ B hml hv
  obtain ⟨rfl, hsz, hn9, hP, hC, hD0⟩ := hv
  have hK := hC.1
  have hNW := hC.2.1
  have hx := B.exec
  have hb := B.bytes
  have hrt := B.returns
  have hts := atoms_spec (ws := wsX10_regionAt) B.pre
  have hown : s.vm.findClass RX10 = some m.cls := findClass_of_methodNamed B.named
  have hlocks := B.notSynchronized
  subst hsz
  obtain ⟨A, hAd⟩ : ∃ A, A = va_A (va_pl L f) s.heap.size := ⟨_, rfl⟩
  have hD := hD0.self (sz := s.heap.size)
  rw [← hAd] at hD
  have hA : ∀ q : Nat, s.heap.size ≤ q → A q := fun q h => by rw [hAd]; exact Or.inr h
  have hAn : ∀ q : Nat, A q → n0 ≤ q := fun q h => by
    rw [hAd] at h
    rcases h with ⟨k9, e9, hk9⟩ | h
    · exact hD0.2 k9 _ hk9
    · exact Nat.le_trans hn9 h
  have hS : va_S A s.heap s.heap [] := va_S.rf
  have hl := lv_entry ([.ref (a 0), .int (zI ((i : Int))), .int (zI (y))]) (n := 5) (Nat.le_of_ble_eq_true rfl)
  rw [lg_entry_eq]
  generalize (lg_sl ([.ref (a 0), .int (zI ((i : Int))), .int (zI (y))]) ++ List.replicate (5 - (lg_sl ([.ref (a 0), .int (zI ((i : Int))), .int (zI (y))])).length) Slot.unset).toArray = ls at hl ⊢
  have hl : lv_has ls 5 [(0, .ref (a 0)), (1, .int (zI ((i : Int)))), (2, .int (zI (y)))] := hl
  obtain ⟨Q, hQ⟩ : ∃ Q, Q = MQ below (va_Qi (fun _ u => ∃ (F : Nat → va_E) (N3 R V : Nat → Int32), u = va_pl L F ∧ mRep k L F a 1 ((sN S)) ((sC S : Int)) A1 A2 A3 A4 A5 A6 A7 N3 R V) (pB D (va_pl L f) s.heap.size) (va_A (va_pl L f) s.heap.size)) ([.ref (a 0), .int (zI ((i : Int))), .int (zI (y))] : List Value).toArray s 0 0 (va_A (va_pl L f) s.heap.size) := ⟨_, rfl⟩
  rw [← hQ]
  have hMN := hO.1
  have hMC : 0 ≤ (sC S : Int) ∧ (sC S : Int) ≤ 30 := by have h8 := hO.2.2.2.1; omega
  have hszb := fb_sm_bound (f := fun j => pc1 (G j)) (c := 32) (n := 24) (fun k9 _ => pc1_le _)
  have hszb : sizeR G ≤ 768 := hszb
  refine lv_aload_n hx hb dX10_regionAt_0 rfl (lv_at hl 0 rfl) ?_
  refine lv_iload_n hx hb dX10_regionAt_1 rfl (lv_at hl 1 rfl) ?_
  refine vp_callSi (va_Run.run (va_runV (As := [.int (zI ((i : Int)))]) (rest := []) ⟨hx, hb, hml, hown, hts⟩ (kX10_isNode l D k L f a tw ((sN S)) ((sC S : Int)) A1 A2 A3 A4 A5 A6 A7 A8 A9 A10 hM (by omega) (by omega) (by omega) ((i : Int)) (by omega)) (cwV 1 hts gX10_regionAt_X10_isNode rfl rfl rfl (by decide +kernel) ⟨Nat.le_of_ble_eq_true rfl, Nat.le_of_ble_eq_true rfl⟩) (rc_preV hC hP (pl_recv hK hP (hM.2.2.2.2.2.2.2.2.2.2.2.1 0 (by decide)) hM.1 (ci := 9) (q := (RX10, TX10, 13)) rfl)) rfl rfl hl.1 rfl (lv_room (Nat.le_of_ble_eq_true rfl)) dX10_regionAt_2 ⟨Nat.zero_le _, Nat.zero_le _⟩)) (fun r1 hr1 => ?_)
  subst hr1
  refine zr_ifb_eq (tgt := 13) hx hb dX10_regionAt_5 (by decide) (fun c2 => ?_) (fun c2 => ?_)
  · have hn_c2 := inB_n c2
    exact (b_tf (inB_t (by omega)) c2).elim
  · have hn_c2 := inB_i c2
    refine lv_aload_n hx hb dX10_regionAt_8 rfl (lv_at hl 0 rfl) ?_
    refine lv_iload_n hx hb dX10_regionAt_9 rfl (lv_at hl 1 rfl) ?_
    refine pc_callv (va_runV (As := [.int (zI ((i : Int)))]) (rest := []) ⟨hx, hb, hml, hown, hts⟩ (kX10_lay l D k L f S hO a tw A1 A2 A3 A4 A5 A6 A7 A8 A9 A10 hM (by omega) hY i hi n0 _) (cwV 1 hts gX10_regionAt_X10_lay rfl rfl rfl (by decide +kernel) ⟨Nat.le_of_ble_eq_true rfl, Nat.le_of_ble_eq_true rfl⟩) (pc_preV hC hP (Nat.le_trans hn9 hS.1) hD hAn (pl_recv hK hP (hM.2.2.2.2.2.2.2.2.2.2.2.1 0 (by decide)) hM.1 (ci := 9) (q := (RX10, TX10, 13)) rfl)) rfl rfl hl.1 rfl (lv_room (Nat.le_of_ble_eq_true rfl)) dX10_regionAt_10 ⟨Nat.zero_le _, Nat.zero_le _⟩) hD hS hA (fun ur3 H locs hr3 hP hD hS hzr3 => ?_)
    obtain ⟨Fr3, Nr3, Rr3, Vr3, hwr3, hMr3, hQr3⟩ := hr3
    have hwr3 : ur3 = va_pl L Fr3 := hwr3
    subst hwr3
    refine lv_aload_n hx hb dX10_regionAt_13 rfl (lv_at hl 0 rfl) ?_
    refine lv_aload_n hx hb dX10_regionAt_14 rfl (lv_at hl 0 rfl) ?_
    refine lv_iload_n hx hb dX10_regionAt_15 rfl (lv_at hl 1 rfl) ?_
    refine vp_callSi (va_Run.run (va_runV (As := [.int (zI ((i : Int)))]) (rest := [.ref (a 0)]) ⟨hx, hb, hml, hown, hts⟩ (kX10_isNode l D k L Fr3 a tw ((sN S)) ((sC S : Int)) A1 A2 A3 A4 A5 A6 A7 Nr3 Rr3 Vr3 hMr3 (by omega) (by omega) (by omega) ((i : Int)) (by omega)) (cwV 1 hts gX10_regionAt_X10_isNode rfl rfl rfl (by decide +kernel) ⟨Nat.le_of_ble_eq_true rfl, Nat.le_of_ble_eq_true rfl⟩) (rc_preV hC hP (pl_recv hK hP (hMr3.2.2.2.2.2.2.2.2.2.2.2.1 0 (by decide)) hMr3.1 (ci := 9) (q := (RX10, TX10, 13)) rfl)) rfl rfl hl.1 rfl (lv_room (Nat.le_of_ble_eq_true rfl)) dX10_regionAt_16 ⟨Nat.zero_le _, Nat.zero_le _⟩)) (fun r4 hr4 => ?_)
    subst hr4
    refine zr_ifb_eq (tgt := 41) hx hb dX10_regionAt_19 (by decide) (fun c5 => ?_) (fun c5 => ?_)
    · have hn_c5 := inB_n c5
      exact (b_tf (inB_t (by omega)) c5).elim
    · have hn_c5 := inB_i c5
      refine lv_iload_n hx hb dX10_regionAt_22 rfl (lv_at hl 2 rfl) ?_
      refine zr_const hx hb dX10_regionAt_23 ?_
      refine lv_aload_n hx hb dX10_regionAt_24 rfl (lv_at hl 0 rfl) ?_
      refine lv_iload_n hx hb dX10_regionAt_25 rfl (lv_at hl 1 rfl) ?_
      refine vp_callSi (va_Run.run (va_runV (As := [.int (zI ((i : Int)))]) (rest := [.int (zI (0)), .int (zI (y)), .ref (a 0)]) ⟨hx, hb, hml, hown, hts⟩ (kX10_countRegions l D k L Fr3 a tw ((sN S)) ((sC S : Int)) A1 A2 A3 A4 A5 A6 A7 Nr3 Rr3 Vr3 hMr3 (by omega) (by omega) (by omega) i (by omega) (sem S i) G hQr3 (sem24 hO hi) hG) (cwV 1 hts gX10_regionAt_X10_countRegions rfl rfl rfl (by decide +kernel) ⟨Nat.le_of_ble_eq_true rfl, Nat.le_of_ble_eq_true rfl⟩) (rc_preV hC hP (pl_recv hK hP (hMr3.2.2.2.2.2.2.2.2.2.2.2.1 0 (by decide)) hMr3.1 (ci := 9) (q := (RX10, TX10, 13)) rfl)) rfl rfl hl.1 rfl (lv_room (Nat.le_of_ble_eq_true rfl)) dX10_regionAt_26 ⟨Nat.zero_le _, Nat.zero_le _⟩)) (fun r6 hr6 => ?_)
      subst hr6
      refine zr_const hx hb dX10_regionAt_29 ?_
      refine zr_sub hx hb dX10_regionAt_30 ?_
      refine vp_callSi (va_Run.run (va_runS (As := [.int (zI (y)), .int (zI (0)), .int (zI ((((sizeR G : Nat) : Int)) - 1))]) (rest := [.ref (a 0)]) ⟨hx, hb, hml, hown, hts⟩ (kX10_in l D k L Fr3 (y) (by omega) (0) (by omega) ((((sizeR G : Nat) : Int)) - 1) (by omega)) (va_cwS 3 hts gX10_regionAt_X10_in rfl rfl rfl (by decide +kernel) ⟨Nat.le_of_ble_eq_true rfl, Nat.le_of_ble_eq_true rfl⟩) (rc_preS hC hP) rfl rfl hl.1 rfl (lv_room (Nat.le_of_ble_eq_true rfl)) dX10_regionAt_31 ⟨Nat.zero_le _, Nat.zero_le _⟩)) (fun r7 hr7 => ?_)
      subst hr7
      refine zr_ifb_eq (tgt := 41) hx hb dX10_regionAt_34 (by decide) (fun c8 => ?_) (fun c8 => ?_)
      · have hn_c8 := inB_n c8
        refine zr_const hx hb dX10_regionAt_41 ?_
        refine pc_calli (va_runV (As := [.int (zI (1))]) (rest := []) ⟨hx, hb, hml, hown, hts⟩ (kX10_goesWell l D k L Fr3 a tw ((sN S)) ((sC S : Int)) A1 A2 A3 A4 A5 A6 A7 Nr3 Rr3 Vr3 hMr3 (by omega) (by omega) (by omega) (1) (by omega) n0 _) (cwV 1 hts gX10_regionAt_X10_goesWell rfl rfl rfl (by decide +kernel) ⟨Nat.le_of_ble_eq_true rfl, Nat.le_of_ble_eq_true rfl⟩) (pc_preV hC hP (Nat.le_trans hn9 hS.1) hD hAn (pl_recv hK hP (hMr3.2.2.2.2.2.2.2.2.2.2.2.1 0 (by decide)) hMr3.1 (ci := 9) (q := (RX10, TX10, 13)) rfl)) rfl rfl hl.1 rfl (lv_room (Nat.le_of_ble_eq_true rfl)) dX10_regionAt_42 ⟨Nat.zero_le _, Nat.zero_le _⟩) hD hS hA (fun r9 ur9 H locs hr9 hP hD hS hzr9 => ?_)
        obtain ⟨hvr9, Fr9, hwr9, hMr9⟩ := hr9
        have hvr9 : r9 = bI (decide ((1 : Int) = 0)) := hvr9
        subst hvr9
        have hwr9 : ur9 = va_pl L Fr9 := hwr9
        subst hwr9
        refine zr_ifb_ne (tgt := 50) hx hb dX10_regionAt_45 (by decide) (fun c10 => ?_) (fun c10 => ?_)
        · exact absurd c10 (by decide)
        · refine zr_const hx hb dX10_regionAt_48 ?_
          rw [hQ]
          exact pc_iret hx hb hrt hP (by rw [← hAd]; exact hD) (by rw [← hAd]; exact hS) (⟨_, _, _, _, rfl, hMr9⟩) dX10_regionAt_49 hlocks
      · have hn_c8 := inB_i c8
        exact (b_tf c8 (inB_f (by omega))).elim

set_option maxHeartbeats 4000000 in
set_option maxRecDepth 100000 in
theorem kX10_regionAt_n (l : Launch) (D : va_G) (k : Nat → ClassId) (L : List Nat) (f : Nat → va_E) (S : SA) (hO : aOK S) (a : Nat → Nat) (tw : Int) (A1 A2 A3 A4 A5 A6 A7 A8 A9 A10 : Nat → Int32) (hM : mRep k L f a tw ((sN S)) ((sC S : Int)) A1 A2 A3 A4 A5 A6 A7 A8 A9 A10) (hMT : 0 ≤ tw ∧ tw ≤ 3) (hY : mSync S A1 A2 A3 A4 A5 A6 A7) (z : Int) (hz : -2147483648 ≤ z ∧ z < 2147483648) (hz2 : ¬ (0 ≤ z ∧ z < (sC S : Int))) (y : Int) (hy : -2147483648 ≤ y ∧ y < 2147483648) (n0 sz : Nat) : Met l yX10_regionAt wsX10_regionAt ({ frames := 2, cells := 0, slots := 0, locals := 43 } : Room) (va_Pc [.ref (a 0), .int (zI (z)), .int (zI (y))] (pPre D (tyL k) n0 (va_pl L f) sz)) (va_Qi (fun _ u => ∃ F : Nat → va_E, u = va_pl L F ∧ mRep k L F a 1 ((sN S)) ((sC S : Int)) A1 A2 A3 A4 A5 A6 A7 A8 A9 A10) (pB D (va_pl L f) sz) (va_A (va_pl L f) sz)) 0 0 (va_A (va_pl L f) sz) := by
  refine Met.ofW (cc := cX10_regionAt) (maxL := 5) (ret := (some .int)) (by decide) rfl ?_
  intro p e s m args below meth c s₁ B hml hv
  obtain ⟨rfl, hsz, hn9, hP, hC, hD0⟩ := hv
  have hK := hC.1
  have hNW := hC.2.1
  have hx := B.exec
  have hb := B.bytes
  have hrt := B.returns
  have hts := atoms_spec (ws := wsX10_regionAt) B.pre
  have hown : s.vm.findClass RX10 = some m.cls := findClass_of_methodNamed B.named
  have hlocks := B.notSynchronized
  subst hsz
  obtain ⟨A, hAd⟩ : ∃ A, A = va_A (va_pl L f) s.heap.size := ⟨_, rfl⟩
  have hD := hD0.self (sz := s.heap.size)
  rw [← hAd] at hD
  have hA : ∀ q : Nat, s.heap.size ≤ q → A q := fun q h => by rw [hAd]; exact Or.inr h
  have hAn : ∀ q : Nat, A q → n0 ≤ q := fun q h => by
    rw [hAd] at h
    rcases h with ⟨k9, e9, hk9⟩ | h
    · exact hD0.2 k9 _ hk9
    · exact Nat.le_trans hn9 h
  have hS : va_S A s.heap s.heap [] := va_S.rf
  have hl := lv_entry ([.ref (a 0), .int (zI (z)), .int (zI (y))]) (n := 5) (Nat.le_of_ble_eq_true rfl)
  rw [lg_entry_eq]
  generalize (lg_sl ([.ref (a 0), .int (zI (z)), .int (zI (y))]) ++ List.replicate (5 - (lg_sl ([.ref (a 0), .int (zI (z)), .int (zI (y))])).length) Slot.unset).toArray = ls at hl ⊢
  have hl : lv_has ls 5 [(0, .ref (a 0)), (1, .int (zI (z))), (2, .int (zI (y)))] := hl
  obtain ⟨Q, hQ⟩ : ∃ Q, Q = MQ below (va_Qi (fun _ u => ∃ F : Nat → va_E, u = va_pl L F ∧ mRep k L F a 1 ((sN S)) ((sC S : Int)) A1 A2 A3 A4 A5 A6 A7 A8 A9 A10) (pB D (va_pl L f) s.heap.size) (va_A (va_pl L f) s.heap.size)) ([.ref (a 0), .int (zI (z)), .int (zI (y))] : List Value).toArray s 0 0 (va_A (va_pl L f) s.heap.size) := ⟨_, rfl⟩
  rw [← hQ]
  have hMN := hO.1
  have hMC : 0 ≤ (sC S : Int) ∧ (sC S : Int) ≤ 30 := by have h8 := hO.2.2.2.1; omega
  refine lv_aload_n hx hb dX10_regionAt_0 rfl (lv_at hl 0 rfl) ?_
  refine lv_iload_n hx hb dX10_regionAt_1 rfl (lv_at hl 1 rfl) ?_
  refine vp_callSi (va_Run.run (va_runV (As := [.int (zI (z))]) (rest := []) ⟨hx, hb, hml, hown, hts⟩ (kX10_isNode l D k L f a tw ((sN S)) ((sC S : Int)) A1 A2 A3 A4 A5 A6 A7 A8 A9 A10 hM (by omega) (by omega) (by omega) (z) (by omega)) (cwV 1 hts gX10_regionAt_X10_isNode rfl rfl rfl (by decide +kernel) ⟨Nat.le_of_ble_eq_true rfl, Nat.le_of_ble_eq_true rfl⟩) (rc_preV hC hP (pl_recv hK hP (hM.2.2.2.2.2.2.2.2.2.2.2.1 0 (by decide)) hM.1 (ci := 9) (q := (RX10, TX10, 13)) rfl)) rfl rfl hl.1 rfl (lv_room (Nat.le_of_ble_eq_true rfl)) dX10_regionAt_2 ⟨Nat.zero_le _, Nat.zero_le _⟩)) (fun r1 hr1 => ?_)
  subst hr1
  refine zr_ifb_eq (tgt := 13) hx hb dX10_regionAt_5 (by decide) (fun c2 => ?_) (fun c2 => ?_)
  · have hn_c2 := inB_n c2
    refine lv_aload_n hx hb dX10_regionAt_13 rfl (lv_at hl 0 rfl) ?_
    refine lv_aload_n hx hb dX10_regionAt_14 rfl (lv_at hl 0 rfl) ?_
    refine lv_iload_n hx hb dX10_regionAt_15 rfl (lv_at hl 1 rfl) ?_
    refine vp_callSi (va_Run.run (va_runV (As := [.int (zI (z))]) (rest := [.ref (a 0)]) ⟨hx, hb, hml, hown, hts⟩ (kX10_isNode l D k L f a tw ((sN S)) ((sC S : Int)) A1 A2 A3 A4 A5 A6 A7 A8 A9 A10 hM (by omega) (by omega) (by omega) (z) (by omega)) (cwV 1 hts gX10_regionAt_X10_isNode rfl rfl rfl (by decide +kernel) ⟨Nat.le_of_ble_eq_true rfl, Nat.le_of_ble_eq_true rfl⟩) (rc_preV hC hP (pl_recv hK hP (hM.2.2.2.2.2.2.2.2.2.2.2.1 0 (by decide)) hM.1 (ci := 9) (q := (RX10, TX10, 13)) rfl)) rfl rfl hl.1 rfl (lv_room (Nat.le_of_ble_eq_true rfl)) dX10_regionAt_16 ⟨Nat.zero_le _, Nat.zero_le _⟩)) (fun r3 hr3 => ?_)
    subst hr3
    refine zr_ifb_eq (tgt := 41) hx hb dX10_regionAt_19 (by decide) (fun c4 => ?_) (fun c4 => ?_)
    · have hn_c4 := inB_n c4
      refine zr_const hx hb dX10_regionAt_41 ?_
      refine pc_calli (va_runV (As := [.int (zI (1))]) (rest := []) ⟨hx, hb, hml, hown, hts⟩ (kX10_goesWell l D k L f a tw ((sN S)) ((sC S : Int)) A1 A2 A3 A4 A5 A6 A7 A8 A9 A10 hM (by omega) (by omega) (by omega) (1) (by omega) n0 _) (cwV 1 hts gX10_regionAt_X10_goesWell rfl rfl rfl (by decide +kernel) ⟨Nat.le_of_ble_eq_true rfl, Nat.le_of_ble_eq_true rfl⟩) (pc_preV hC hP (Nat.le_trans hn9 hS.1) hD hAn (pl_recv hK hP (hM.2.2.2.2.2.2.2.2.2.2.2.1 0 (by decide)) hM.1 (ci := 9) (q := (RX10, TX10, 13)) rfl)) rfl rfl hl.1 rfl (lv_room (Nat.le_of_ble_eq_true rfl)) dX10_regionAt_42 ⟨Nat.zero_le _, Nat.zero_le _⟩) hD hS hA (fun r5 ur5 H locs hr5 hP hD hS hzr5 => ?_)
      obtain ⟨hvr5, Fr5, hwr5, hMr5⟩ := hr5
      have hvr5 : r5 = bI (decide ((1 : Int) = 0)) := hvr5
      subst hvr5
      have hwr5 : ur5 = va_pl L Fr5 := hwr5
      subst hwr5
      refine zr_ifb_ne (tgt := 50) hx hb dX10_regionAt_45 (by decide) (fun c6 => ?_) (fun c6 => ?_)
      · exact absurd c6 (by decide)
      · refine zr_const hx hb dX10_regionAt_48 ?_
        rw [hQ]
        exact pc_iret hx hb hrt hP (by rw [← hAd]; exact hD) (by rw [← hAd]; exact hS) (⟨_, rfl, hMr5⟩) dX10_regionAt_49 hlocks
    · have hn_c4 := inB_i c4
      exact (b_tf c4 (inB_f (by omega))).elim
  · have hn_c2 := inB_i c2
    exact (b_tf c2 (inB_f (by omega))).elim
