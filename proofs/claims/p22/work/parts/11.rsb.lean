set_option maxHeartbeats 4000000 in
set_option maxRecDepth 100000 in
theorem kX6_size (l : Launch) (D : va_G) (k : Nat → ClassId) (L : List Nat) (f : Nat → va_E) (h r : Nat) (g : Nat → Int32) (hh : h ∈ L) (hfh : f h = .inr (5, [.ref r])) (hr : r ∈ L) (hfr : f r = .inl (k 0, 24, .inl g)) : Met l yX6_size wsX6_size ({ frames := 1, cells := 0, slots := 0, locals := 20 } : Room) (va_Pc [.ref h] (rPre D (tyL k) (va_pl L f))) (vp_Si (fun r9 => r9 = zI (sizeR g : Int))) 0 0 (fun _ => False) := by
  refine Met.ofW (cc := cX6_size) (maxL := 3) (ret := (some .int)) (by decide) rfl ?_
  intro p e s m args below meth c s₁ B hml hv
  obtain ⟨rfl, hP, hC⟩ := hv
  have hK := hC.1
  have hNW := hC.2.1
  have hx := B.exec
  have hb := B.bytes
  have hrt := B.returns
  have hts := atoms_spec (ws := wsX6_size) B.pre
  have hown : s.vm.findClass RX6 = some m.cls := findClass_of_methodNamed B.named
  have hlocks := B.notSynchronized
  have hi_X6 : ∀ w ∈ u_ws RX6 TX6 1, w ∈ wsX6_size := by decide +kernel
  have hw_0 := hts (.fieldLink RX6 9 "Regionry$RegionSet" "rows" "[I") (by decide +kernel)
  have hl := lv_entry ([.ref h]) (n := 3) (Nat.le_of_ble_eq_true rfl)
  rw [lg_entry_eq]
  generalize (lg_sl ([.ref h]) ++ List.replicate (3 - (lg_sl ([.ref h])).length) Slot.unset).toArray = ls at hl ⊢
  have hl : lv_has ls 3 [(0, .ref h)] := hl
  obtain ⟨Q, hQ⟩ : ∃ Q, Q = MQ below (vp_Si (fun r9 => r9 = zI (sizeR g : Int))) ([.ref h] : List Value).toArray s 0 0 (fun _ => False) := ⟨_, rfl⟩
  rw [← hQ]
  refine zr_const hx hb dX6_size_0 ?_
  refine lv_istore_n (lv' := [(1, .int (zI (0))), (0, .ref h)]) hx hb dX6_size_1 rfl hl (by decide) rfl (fun ls hl => ?_)
  refine zr_const hx hb dX6_size_2 ?_
  refine lv_istore_n (lv' := [(2, .int (zI (0))), (1, .int (zI (0))), (0, .ref h)]) hx hb dX6_size_3 rfl hl (by decide) rfl (fun ls hl => ?_)
  have cut_4 : ∀ (n9 : Nat) (i : Nat) (z1 : Int) (x1 : Int), (i ≤ 24) → (z1 = i) → (x1 = ((fb_sm (fun j => pc1 (g j)) i : Nat) : Int)) → 24 - z1 < (n9 : Int) → ∀ (ls : Array Slot), lv_has ls 3 [(0, .ref h), (1, .int (zI (x1))), (2, .int (zI (z1)))] → W p l e (headSpec wsX6_size ({ frames := 1, cells := 0, slots := 0, locals := 20 } : Room)).room s m ([.ref h] : List Value).toArray below meth c s.heap [] 0 0 Q (F0 m 4 ls []) := by
    intro n9
    induction n9 with
    | zero =>
      intro i z1 x1 hi hz1 hx1 hfu
      exact absurd hfu (by omega)
    | succ n9 ih_4 =>
      intro i z1 x1 hi hz1 hx1 hfu ls hl
      refine lv_iload_n hx hb dX6_size_4 rfl (lv_at hl 2 rfl) ?_
      refine lv_aload_n hx hb dX6_size_5 rfl (lv_at hl 0 rfl) ?_
      refine pl_get (ci := 5) (v := .ref r) (C := RX6) (T := TX6) (N := 1) hx hb hts hi_X6 hown hK hP hh hfh rfl 0 (by decide) hw_0 (fun _ h9 => h9) rfl dX6_size_6 ?_
      refine pl_alen (ty := .int) hx hb hK hP hr 0 hfr rfl (24) rfl dX6_size_9 ?_
      refine zr_icmp_ge (tgt := 31) hx hb dX6_size_10 (by decide) (by omega) (by omega) (fun c1 => ?_) (fun c1 => ?_)
      · refine lv_iload_n hx hb dX6_size_31 rfl (lv_at hl 1 rfl) ?_
        rw [hQ]
        exact rc_iret hx hb hrt (by obtain rfl : i = 24 := (by omega); rw [hx1]; rfl) dX6_size_32 hlocks
      · refine lv_iload_n hx hb dX6_size_13 rfl (lv_at hl 1 rfl) ?_
        refine lv_aload_n hx hb dX6_size_14 rfl (lv_at hl 0 rfl) ?_
        refine pl_get (ci := 5) (v := .ref r) (C := RX6) (T := TX6) (N := 1) hx hb hts hi_X6 hown hK hP hh hfh rfl 0 (by decide) hw_0 (fun _ h9 => h9) rfl dX6_size_15 ?_
        refine lv_iload_n hx hb dX6_size_18 rfl (lv_at hl 2 rfl) ?_
        refine pl_iald hx hb hK hP hr 0 hfr rfl (i) (by omega) (by omega) (by decide) dX6_size_19 ?_
        refine vp_callSi (va_Run.run (va_runS (As := [.int (g (i))]) (rest := [.int (zI (x1))]) ⟨hx, hb, hml, hown, hts⟩ (kJ6_bitCount l D k L f (g (i))) (va_cwS 1 hts gX6_size_J6_bitCount_0f7a4 rfl rfl rfl (by decide +kernel) ⟨Nat.le_of_ble_eq_true rfl, Nat.le_of_ble_eq_true rfl⟩) (rc_preS hC hP) rfl rfl hl.1 rfl (lv_room (Nat.le_of_ble_eq_true rfl)) dX6_size_20 ⟨Nat.zero_le _, Nat.zero_le _⟩)) (fun r2 hr2 => ?_)
        subst hr2
        refine zr_add hx hb dX6_size_23 ?_
        refine lv_istore_n (lv' := [(1, .int (zI (x1 + (((pc1 (g (i)) : Nat) : Int))))), (0, .ref h), (2, .int (zI (z1)))]) hx hb dX6_size_24 rfl hl (by decide) rfl (fun ls hl => ?_)
        refine zr_iinc (k := 2) (lv' := [(2, .int (zI (z1 + 1))), (1, .int (zI (x1 + (((pc1 (g (i)) : Nat) : Int))))), (0, .ref h)]) hx hb dX6_size_25 hl rfl (by decide) rfl (fun ls hl => ?_)
        refine lv_goto (tgt := 4) hx hb dX6_size_28 (by decide) ?_
        exact ih_4 (i + 1) (z1 + 1) (x1 + (((pc1 (g (i)) : Nat) : Int))) (by omega) (by omega) (by simp only [fb_sm_succ]; omega) (by omega) _ (lv_sub hl [2, 1, 0] rfl)
  exact cut_4 ((24 - (0) : Int).toNat + 1) (0) (0) (0) (by omega) (by omega) (rfl) (by omega) _ (lv_sub hl [2, 1, 0] rfl)

set_option maxHeartbeats 4000000 in
set_option maxRecDepth 100000 in
theorem kX6_told (l : Launch) (D : va_G) (k : Nat → ClassId) (L : List Nat) (f : Nat → va_E) (h r : Nat) (g : Nat → Int32) (hh : h ∈ L) (hfh : f h = .inr (5, [.ref r])) (hr : r ∈ L) (hfr : f r = .inl (k 0, 24, .inl g)) (z : Int) (hz : -2147483648 ≤ z ∧ z < 2147483648) : Met l yX6_told wsX6_told ({ frames := 1, cells := 0, slots := 0, locals := 22 } : Room) (va_Pc [.ref h, .int (zI (z))] (rPre D (tyL k) (va_pl L f))) (vp_Si (fun r9 => toldP g z r9)) 0 0 (fun _ => False) := by
  refine Met.ofW (cc := cX6_told) (maxL := 5) (ret := (some .int)) (by decide) rfl ?_
  intro p e s m args below meth c s₁ B hml hv
  obtain ⟨rfl, hP, hC⟩ := hv
  have hK := hC.1
  have hNW := hC.2.1
  have hx := B.exec
  have hb := B.bytes
  have hrt := B.returns
  have hts := atoms_spec (ws := wsX6_told) B.pre
  have hown : s.vm.findClass RX6 = some m.cls := findClass_of_methodNamed B.named
  have hlocks := B.notSynchronized
  have hl := lv_entry ([.ref h, .int (zI (z))]) (n := 5) (Nat.le_of_ble_eq_true rfl)
  rw [lg_entry_eq]
  generalize (lg_sl ([.ref h, .int (zI (z))]) ++ List.replicate (5 - (lg_sl ([.ref h, .int (zI (z))])).length) Slot.unset).toArray = ls at hl ⊢
  have hl : lv_has ls 5 [(0, .ref h), (1, .int (zI (z)))] := hl
  obtain ⟨Q, hQ⟩ : ∃ Q, Q = MQ below (vp_Si (fun r9 => toldP g z r9)) ([.ref h, .int (zI (z))] : List Value).toArray s 0 0 (fun _ => False) := ⟨_, rfl⟩
  rw [← hQ]
  refine zr_const hx hb dX6_told_0 ?_
  refine lv_istore_n (lv' := [(2, .int (zI (0))), (0, .ref h), (1, .int (zI (z)))]) hx hb dX6_told_1 rfl hl (by decide) rfl (fun ls hl => ?_)
  refine zr_const hx hb dX6_told_2 ?_
  refine lv_istore_n (lv' := [(3, .int (zI (0))), (2, .int (zI (0))), (0, .ref h), (1, .int (zI (z)))]) hx hb dX6_told_3 rfl hl (by decide) rfl (fun ls hl => ?_)
  have cut_4 : ∀ (n9 : Nat) (a : Nat) (z3 : Int) (z2 : Int), (a ≤ 24) → (z3 = a) → (z2 = ((fb_ct (linB g) (25 * a) : Nat) : Int)) → (∀ q, q < 25 * a → linB g q = true → ((fb_ct (linB g) q : Nat) : Int) ≠ z) → 24 - z3 < (n9 : Int) → ∀ (ls : Array Slot), lv_has ls 5 [(0, .ref h), (1, .int (zI (z))), (2, .int (zI (z2))), (3, .int (zI (z3)))] → W p l e (headSpec wsX6_told ({ frames := 1, cells := 0, slots := 0, locals := 22 } : Room)).room s m ([.ref h, .int (zI (z))] : List Value).toArray below meth c s.heap [] 0 0 Q (F0 m 4 ls []) := by
    intro n9
    induction n9 with
    | zero =>
      intro a z3 z2 ha hz3 hz2 hno hfu
      exact absurd hfu (by omega)
    | succ n9 ih_4 =>
      intro a z3 z2 ha hz3 hz2 hno hfu ls hl
      refine lv_iload_n hx hb dX6_told_4 rfl (lv_at hl 3 rfl) ?_
      refine zr_bipush hx hb dX6_told_5 (by decide) ?_
      refine zr_icmp_ge (tgt := 60) hx hb dX6_told_7 (by decide) (by omega) (by omega) (fun c1 => ?_) (fun c1 => ?_)
      · refine zr_const hx hb dX6_told_60 ?_
        rw [hQ]
        exact rc_iret hx hb hrt (Or.inr ⟨fun q h => hno q (by omega), rfl⟩) dX6_told_61 hlocks
      · refine lv_iload_n hx hb dX6_told_10 rfl (lv_at hl 3 rfl) ?_
        refine zr_const hx hb dX6_told_11 ?_
        refine zr_add hx hb dX6_told_12 ?_
        refine lv_istore (lv' := [(4, .int (zI (z3 + 1))), (0, .ref h), (1, .int (zI (z))), (2, .int (zI (z2))), (3, .int (zI (z3)))]) hx hb dX6_told_13 hl (by decide) rfl (fun ls hl => ?_)
        have cut_15 : ∀ (n9 : Nat) (b : Nat) (z4 : Int) (z2 : Int), (a + 1 ≤ b ∧ b ≤ 25) → (z4 = b) → (z2 = ((fb_ct (linB g) (25 * a + b) : Nat) : Int)) → (∀ q, q < 25 * a + b → linB g q = true → ((fb_ct (linB g) q : Nat) : Int) ≠ z) → 25 - z4 < (n9 : Int) → ∀ (ls : Array Slot), lv_has ls 5 [(0, .ref h), (1, .int (zI (z))), (2, .int (zI (z2))), (3, .int (zI (z3))), (4, .int (zI (z4)))] → W p l e (headSpec wsX6_told ({ frames := 1, cells := 0, slots := 0, locals := 22 } : Room)).room s m ([.ref h, .int (zI (z))] : List Value).toArray below meth c s.heap [] 0 0 Q (F0 m 15 ls []) := by
          intro n9
          induction n9 with
          | zero =>
            intro b z4 z2 hb4 hz4 hz2 hno hfu
            exact absurd hfu (by omega)
          | succ n9 ih_15 =>
            intro b z4 z2 hb4 hz4 hz2 hno hfu ls hl
            refine lv_iload hx hb dX6_told_15 (lv_at hl 4 rfl) ?_
            refine zr_bipush hx hb dX6_told_17 (by decide) ?_
            refine zr_icmp_gt (tgt := 54) hx hb dX6_told_19 (by decide) (by omega) (by omega) (fun c2 => ?_) (fun c2 => ?_)
            · refine zr_iinc (k := 3) (lv' := [(3, .int (zI (z3 + 1))), (0, .ref h), (1, .int (zI (z))), (2, .int (zI (z2))), (4, .int (zI (z4)))]) hx hb dX6_told_54 hl rfl (by decide) rfl (fun ls hl => ?_)
              refine lv_goto (tgt := 4) hx hb dX6_told_57 (by decide) ?_
              exact ih_4 (a + 1) (z3 + 1) (z2) (by omega) (by omega) (by rw [hz2, show 25 * (a + 1) = 25 * a + b by omega]) (fun q h => hno q (by omega)) (by omega) _ (lv_sub hl [1, 2, 3, 0] rfl)
            · refine lv_aload_n hx hb dX6_told_22 rfl (lv_at hl 0 rfl) ?_
              refine lv_iload_n hx hb dX6_told_23 rfl (lv_at hl 3 rfl) ?_
              refine lv_iload hx hb dX6_told_24 (lv_at hl 4 rfl) ?_
              refine vp_callSi (va_Run.run (va_runV (As := [.int (zI (z3)), .int (zI (z4))]) (rest := []) ⟨hx, hb, hml, hown, hts⟩ (kX6_contains l D k L f h r g hh hfh hr hfr (z3) (by omega) (z4) (by omega)) (cwV 2 hts gX6_told_X6_contains rfl rfl rfl (by decide +kernel) ⟨Nat.le_of_ble_eq_true rfl, Nat.le_of_ble_eq_true rfl⟩) (rc_preV hC hP (pl_recv hK hP hh hfh (ci := 5) (q := (RX6, TX6, 1)) rfl)) rfl rfl hl.1 rfl (lv_room (Nat.le_of_ble_eq_true rfl)) dX6_told_26 ⟨Nat.zero_le _, Nat.zero_le _⟩)) (fun r3 hr3 => ?_)
              subst hr3
              refine zr_ifb_eq (tgt := 48) hx hb dX6_told_29 (by decide) (fun c4 => ?_) (fun c4 => ?_)
              · refine zr_iinc (k := 4) (lv' := [(4, .int (zI (z4 + 1))), (0, .ref h), (1, .int (zI (z))), (2, .int (zI (z2))), (3, .int (zI (z3)))]) hx hb dX6_told_48 hl rfl (by decide) rfl (fun ls hl => ?_)
                refine lv_goto (tgt := 15) hx hb dX6_told_51 (by decide) ?_
                exact ih_15 (b + 1) (z4 + 1) (z2) (by omega) (by omega) (by first | exact told_c1 (by omega) hz3 hz4 (by assumption) hz2 | exact told_c0 (by omega) hz3 hz4 (by assumption) hz2) (by first | exact told_n1 (by omega) hz3 hz4 (by assumption) hz2 (by omega) hno | exact told_n2 (by omega) hz3 hz4 (by assumption) hno) (by omega) _ (lv_sub hl [1, 2, 3, 4, 0] rfl)
              · have hct9 := fb_ct_le (linB g) (25 * a + b)
                refine lv_iload_n hx hb dX6_told_32 rfl (lv_at hl 2 rfl) ?_
                refine lv_iload_n hx hb dX6_told_33 rfl (lv_at hl 1 rfl) ?_
                refine zr_icmp_ne (tgt := 45) hx hb dX6_told_34 (by decide) (by omega) (by omega) (fun c5 => ?_) (fun c5 => ?_)
                · refine zr_iinc (k := 2) (lv' := [(2, .int (zI (z2 + 1))), (0, .ref h), (1, .int (zI (z))), (3, .int (zI (z3))), (4, .int (zI (z4)))]) hx hb dX6_told_45 hl rfl (by decide) rfl (fun ls hl => ?_)
                  refine zr_iinc (k := 4) (lv' := [(4, .int (zI (z4 + 1))), (2, .int (zI (z2 + 1))), (0, .ref h), (1, .int (zI (z))), (3, .int (zI (z3)))]) hx hb dX6_told_48 hl rfl (by decide) rfl (fun ls hl => ?_)
                  refine lv_goto (tgt := 15) hx hb dX6_told_51 (by decide) ?_
                  exact ih_15 (b + 1) (z4 + 1) (z2 + 1) (by omega) (by omega) (by first | exact told_c1 (by omega) hz3 hz4 (by assumption) hz2 | exact told_c0 (by omega) hz3 hz4 (by assumption) hz2) (by first | exact told_n1 (by omega) hz3 hz4 (by assumption) hz2 (by omega) hno | exact told_n2 (by omega) hz3 hz4 (by assumption) hno) (by omega) _ (lv_sub hl [2, 3, 1, 4, 0] rfl)
                · refine zr_bipush hx hb dX6_told_37 (by decide) ?_
                  refine lv_iload_n hx hb dX6_told_39 rfl (lv_at hl 3 rfl) ?_
                  refine zr_mul hx hb dX6_told_40 ?_
                  refine lv_iload hx hb dX6_told_41 (lv_at hl 4 rfl) ?_
                  refine zr_add hx hb dX6_told_43 ?_
                  rw [hQ]
                  exact rc_iret hx hb hrt (told_r (by omega) hz3 hz4 (by assumption) hz2 (by omega) (by omega)) dX6_told_44 hlocks
        exact cut_15 ((25 - (z3 + 1) : Int).toNat + 1) (a + 1) (z3 + 1) (z2) (by omega) (by omega) (by rw [hz2, ct_flat (show 25 * a ≤ 25 * a + (a + 1) by omega) (fun q h1 h2 => linB_lo g (by omega))]) (told_n0 hno) (by omega) _ (lv_sub hl [1, 2, 3, 4, 0] rfl)
  exact cut_4 ((24 - (0) : Int).toNat + 1) (0) (0) (0) (by omega) (by omega) (rfl) (fun q h => absurd h (by omega)) (by omega) _ (lv_sub hl [2, 3, 1, 0] rfl)

set_option maxHeartbeats 4000000 in
set_option maxRecDepth 100000 in
theorem kX6_lowestEnd (l : Launch) (D : va_G) (k : Nat → ClassId) (L : List Nat) (f : Nat → va_E) (h r : Nat) (g : Nat → Int32) (hh : h ∈ L) (hfh : f h = .inr (5, [.ref r])) (hr : r ∈ L) (hfr : f r = .inl (k 0, 24, .inl g)) (z : Int) (hz : 0 ≤ z ∧ z ≤ 24) : Met l yX6_lowestEnd wsX6_lowestEnd ({ frames := 1, cells := 0, slots := 0, locals := 21 } : Room) (va_Pc [.ref h, .int (zI (z))] (rPre D (tyL k) (va_pl L f))) (vp_Si (fun r9 => r9 = zI (lowE (rowAt g z) z : Int))) 0 0 (fun _ => False) := by
  refine Met.ofW (cc := cX6_lowestEnd) (maxL := 4) (ret := (some .int)) (by decide) rfl ?_
  intro p e s m args below meth c s₁ B hml hv
  obtain ⟨rfl, hP, hC⟩ := hv
  have hK := hC.1
  have hNW := hC.2.1
  have hx := B.exec
  have hb := B.bytes
  have hrt := B.returns
  have hts := atoms_spec (ws := wsX6_lowestEnd) B.pre
  have hown : s.vm.findClass RX6 = some m.cls := findClass_of_methodNamed B.named
  have hlocks := B.notSynchronized
  have hl := lv_entry ([.ref h, .int (zI (z))]) (n := 4) (Nat.le_of_ble_eq_true rfl)
  rw [lg_entry_eq]
  generalize (lg_sl ([.ref h, .int (zI (z))]) ++ List.replicate (4 - (lg_sl ([.ref h, .int (zI (z))])).length) Slot.unset).toArray = ls at hl ⊢
  have hl : lv_has ls 4 [(0, .ref h), (1, .int (zI (z)))] := hl
  obtain ⟨Q, hQ⟩ : ∃ Q, Q = MQ below (vp_Si (fun r9 => r9 = zI (lowE (rowAt g z) z : Int))) ([.ref h, .int (zI (z))] : List Value).toArray s 0 0 (fun _ => False) := ⟨_, rfl⟩
  rw [← hQ]
  refine lv_aload_n hx hb dX6_lowestEnd_0 rfl (lv_at hl 0 rfl) ?_
  refine lv_iload_n hx hb dX6_lowestEnd_1 rfl (lv_at hl 1 rfl) ?_
  refine vp_callSi (va_Run.run (va_runV (As := [.int (zI (z))]) (rest := []) ⟨hx, hb, hml, hown, hts⟩ (kX6_row l D k L f h r g hh hfh hr hfr (z) (by omega)) (cwV 1 hts gX6_lowestEnd_X6_row rfl rfl rfl (by decide +kernel) ⟨Nat.le_of_ble_eq_true rfl, Nat.le_of_ble_eq_true rfl⟩) (rc_preV hC hP (pl_recv hK hP hh hfh (ci := 5) (q := (RX6, TX6, 1)) rfl)) rfl rfl hl.1 rfl (lv_room (Nat.le_of_ble_eq_true rfl)) dX6_lowestEnd_2 ⟨Nat.zero_le _, Nat.zero_le _⟩)) (fun r1 hr1 => ?_)
  subst hr1
  refine lv_istore_n (lv' := [(2, .int (rowAt g z)), (0, .ref h), (1, .int (zI (z)))]) hx hb dX6_lowestEnd_5 rfl hl (by decide) rfl (fun ls hl => ?_)
  refine lv_iload_n hx hb dX6_lowestEnd_6 rfl (lv_at hl 2 rfl) ?_
  refine zr_const hx hb dX6_lowestEnd_7 ?_
  refine zr_add hx hb dX6_lowestEnd_8 ?_
  refine lv_istore_n (lv' := [(3, .int (zI (z + 1))), (2, .int (rowAt g z)), (0, .ref h), (1, .int (zI (z)))]) hx hb dX6_lowestEnd_9 rfl hl (by decide) rfl (fun ls hl => ?_)
  have cut_10 : ∀ (n9 : Nat) (z3 : Int), (z < z3 ∧ z3 ≤ 25) → (∀ t : Nat, (t : Int) < z3 → z < (t : Int) → bt (rowAt g z) t = false) → 25 - z3 < (n9 : Int) → ∀ (ls : Array Slot), lv_has ls 4 [(0, .ref h), (1, .int (zI (z))), (2, .int (rowAt g z)), (3, .int (zI (z3)))] → W p l e (headSpec wsX6_lowestEnd ({ frames := 1, cells := 0, slots := 0, locals := 21 } : Room)).room s m ([.ref h, .int (zI (z))] : List Value).toArray below meth c s.heap [] 0 0 Q (F0 m 10 ls []) := by
    intro n9
    induction n9 with
    | zero =>
      intro z3 hz3 hno hfu
      exact absurd hfu (by omega)
    | succ n9 ih_10 =>
      intro z3 hz3 hno hfu ls hl
      refine lv_iload_n hx hb dX6_lowestEnd_10 rfl (lv_at hl 3 rfl) ?_
      refine zr_bipush hx hb dX6_lowestEnd_11 (by decide) ?_
      refine zr_icmp_ge (tgt := 30) hx hb dX6_lowestEnd_13 (by decide) (by omega) (by omega) (fun c2 => ?_) (fun c2 => ?_)
      · refine lv_iload_n hx hb dX6_lowestEnd_30 rfl (lv_at hl 3 rfl) ?_
        rw [hQ]
        exact rc_iret hx hb hrt (congrArg zI (lowE_eq (by omega) (by omega) (by omega) hno (by first | (left; omega) | (right; assumption)))) dX6_lowestEnd_31 hlocks
      · refine lv_iload_n hx hb dX6_lowestEnd_16 rfl (lv_at hl 2 rfl) ?_
        refine zr_const hx hb dX6_lowestEnd_17 ?_
        refine lv_iload_n hx hb dX6_lowestEnd_18 rfl (lv_at hl 3 rfl) ?_
        refine zr_shl1 hx hb (by omega) dX6_lowestEnd_19 ?_
        refine lv_iand hx hb dX6_lowestEnd_20 ?_
        refine zr_ifm_ne (tgt := 30) hx hb (by omega) dX6_lowestEnd_21 (by decide) (fun c3 => ?_) (fun c3 => ?_)
        · refine lv_iload_n hx hb dX6_lowestEnd_30 rfl (lv_at hl 3 rfl) ?_
          rw [hQ]
          exact rc_iret hx hb hrt (congrArg zI (lowE_eq (by omega) (by omega) (by omega) hno (by first | (left; omega) | (right; assumption)))) dX6_lowestEnd_31 hlocks
        · refine zr_iinc (k := 3) (lv' := [(3, .int (zI (z3 + 1))), (0, .ref h), (1, .int (zI (z))), (2, .int (rowAt g z))]) hx hb dX6_lowestEnd_24 hl rfl (by decide) rfl (fun ls hl => ?_)
          refine lv_goto (tgt := 10) hx hb dX6_lowestEnd_27 (by decide) ?_
          exact ih_10 (z3 + 1) (by omega) (low_s hno (by assumption) (by omega)) (by omega) _ (lv_sub hl [1, 2, 3, 0] rfl)
  exact cut_10 ((25 - (z + 1) : Int).toNat + 1) (z + 1) (by omega) (fun t h1 h2 => by omega) (by omega) _ (lv_sub hl [2, 3, 1, 0] rfl)

set_option maxHeartbeats 4000000 in
set_option maxRecDepth 100000 in
theorem kX6_highestEnd (l : Launch) (D : va_G) (k : Nat → ClassId) (L : List Nat) (f : Nat → va_E) (h r : Nat) (g : Nat → Int32) (hh : h ∈ L) (hfh : f h = .inr (5, [.ref r])) (hr : r ∈ L) (hfr : f r = .inl (k 0, 24, .inl g)) (z : Int) (hz : -2147483648 ≤ z ∧ z < 2147483648) : Met l yX6_highestEnd wsX6_highestEnd ({ frames := 1, cells := 0, slots := 0, locals := 21 } : Room) (va_Pc [.ref h, .int (zI (z))] (rPre D (tyL k) (va_pl L f))) (vp_Si (fun r9 => r9 = zI (hiE (rowAt g z) 24 : Int))) 0 0 (fun _ => False) := by
  refine Met.ofW (cc := cX6_highestEnd) (maxL := 4) (ret := (some .int)) (by decide) rfl ?_
  intro p e s m args below meth c s₁ B hml hv
  obtain ⟨rfl, hP, hC⟩ := hv
  have hK := hC.1
  have hNW := hC.2.1
  have hx := B.exec
  have hb := B.bytes
  have hrt := B.returns
  have hts := atoms_spec (ws := wsX6_highestEnd) B.pre
  have hown : s.vm.findClass RX6 = some m.cls := findClass_of_methodNamed B.named
  have hlocks := B.notSynchronized
  have hl := lv_entry ([.ref h, .int (zI (z))]) (n := 4) (Nat.le_of_ble_eq_true rfl)
  rw [lg_entry_eq]
  generalize (lg_sl ([.ref h, .int (zI (z))]) ++ List.replicate (4 - (lg_sl ([.ref h, .int (zI (z))])).length) Slot.unset).toArray = ls at hl ⊢
  have hl : lv_has ls 4 [(0, .ref h), (1, .int (zI (z)))] := hl
  obtain ⟨Q, hQ⟩ : ∃ Q, Q = MQ below (vp_Si (fun r9 => r9 = zI (hiE (rowAt g z) 24 : Int))) ([.ref h, .int (zI (z))] : List Value).toArray s 0 0 (fun _ => False) := ⟨_, rfl⟩
  rw [← hQ]
  refine lv_aload_n hx hb dX6_highestEnd_0 rfl (lv_at hl 0 rfl) ?_
  refine lv_iload_n hx hb dX6_highestEnd_1 rfl (lv_at hl 1 rfl) ?_
  refine vp_callSi (va_Run.run (va_runV (As := [.int (zI (z))]) (rest := []) ⟨hx, hb, hml, hown, hts⟩ (kX6_row l D k L f h r g hh hfh hr hfr (z) (by omega)) (cwV 1 hts gX6_highestEnd_X6_row rfl rfl rfl (by decide +kernel) ⟨Nat.le_of_ble_eq_true rfl, Nat.le_of_ble_eq_true rfl⟩) (rc_preV hC hP (pl_recv hK hP hh hfh (ci := 5) (q := (RX6, TX6, 1)) rfl)) rfl rfl hl.1 rfl (lv_room (Nat.le_of_ble_eq_true rfl)) dX6_highestEnd_2 ⟨Nat.zero_le _, Nat.zero_le _⟩)) (fun r1 hr1 => ?_)
  subst hr1
  refine lv_istore_n (lv' := [(2, .int (rowAt g z)), (0, .ref h), (1, .int (zI (z)))]) hx hb dX6_highestEnd_5 rfl hl (by decide) rfl (fun ls hl => ?_)
  refine zr_bipush hx hb dX6_highestEnd_6 (by decide) ?_
  refine lv_istore_n (lv' := [(3, .int (zI (24))), (2, .int (rowAt g z)), (0, .ref h), (1, .int (zI (z)))]) hx hb dX6_highestEnd_8 rfl hl (by decide) rfl (fun ls hl => ?_)
  have cut_9 : ∀ (n9 : Nat) (z3 : Int), (0 ≤ z3 ∧ z3 ≤ 24) → (hiE (rowAt g z) 24 = hiE (rowAt g z) z3.toNat) → z3 < (n9 : Int) → ∀ (ls : Array Slot), lv_has ls 4 [(0, .ref h), (1, .int (zI (z))), (2, .int (rowAt g z)), (3, .int (zI (z3)))] → W p l e (headSpec wsX6_highestEnd ({ frames := 1, cells := 0, slots := 0, locals := 21 } : Room)).room s m ([.ref h, .int (zI (z))] : List Value).toArray below meth c s.heap [] 0 0 Q (F0 m 9 ls []) := by
    intro n9
    induction n9 with
    | zero =>
      intro z3 hz3 he3 hfu
      exact absurd hfu (by omega)
    | succ n9 ih_9 =>
      intro z3 hz3 he3 hfu ls hl
      refine lv_iload_n hx hb dX6_highestEnd_9 rfl (lv_at hl 3 rfl) ?_
      refine zr_if_le (tgt := 27) hx hb dX6_highestEnd_10 (by decide) (by omega) (fun c2 => ?_) (fun c2 => ?_)
      · refine lv_iload_n hx hb dX6_highestEnd_27 rfl (lv_at hl 3 rfl) ?_
        rw [hQ]
        exact rc_iret hx hb hrt (by first | exact hi_r0 (by omega) he3 | exact hi_r1 (by omega) (by assumption) he3) dX6_highestEnd_28 hlocks
      · refine lv_iload_n hx hb dX6_highestEnd_13 rfl (lv_at hl 2 rfl) ?_
        refine zr_const hx hb dX6_highestEnd_14 ?_
        refine lv_iload_n hx hb dX6_highestEnd_15 rfl (lv_at hl 3 rfl) ?_
        refine zr_shl1 hx hb (by omega) dX6_highestEnd_16 ?_
        refine lv_iand hx hb dX6_highestEnd_17 ?_
        refine zr_ifm_ne (tgt := 27) hx hb (by omega) dX6_highestEnd_18 (by decide) (fun c3 => ?_) (fun c3 => ?_)
        · refine lv_iload_n hx hb dX6_highestEnd_27 rfl (lv_at hl 3 rfl) ?_
          rw [hQ]
          exact rc_iret hx hb hrt (by first | exact hi_r0 (by omega) he3 | exact hi_r1 (by omega) (by assumption) he3) dX6_highestEnd_28 hlocks
        · refine zr_iinc (k := 3) (lv' := [(3, .int (zI (z3 + (-1)))), (0, .ref h), (1, .int (zI (z))), (2, .int (rowAt g z))]) hx hb dX6_highestEnd_21 hl rfl (by decide) rfl (fun ls hl => ?_)
          refine lv_goto (tgt := 9) hx hb dX6_highestEnd_24 (by decide) ?_
          exact ih_9 (z3 + (-1)) (by omega) (he3.trans (hiE_f (by omega) (by assumption))) (by omega) _ (lv_sub hl [1, 2, 3, 0] rfl)
  exact cut_9 (((24) : Int).toNat + 1) (24) (by omega) (rfl) (by omega) _ (lv_sub hl [2, 3, 1, 0] rfl)

set_option maxHeartbeats 4000000 in
set_option maxRecDepth 100000 in
theorem kX6_regionsOver (l : Launch) (D : va_G) (k : Nat → ClassId) (L : List Nat) (f : Nat → va_E) (h r : Nat) (g : Nat → Int32) (hh : h ∈ L) (hfh : f h = .inr (5, [.ref r])) (hr : r ∈ L) (hfr : f r = .inl (k 0, 24, .inl g)) (z : Int) (hz : 0 ≤ z ∧ z ≤ 24) : Met l yX6_regionsOver wsX6_regionsOver ({ frames := 2, cells := 0, slots := 0, locals := 40 } : Room) (va_Pc [.ref h, .int (zI (z))] (rPre D (tyL k) (va_pl L f))) (vp_Si (fun r9 => r9 = zI (ovN g z : Int))) 0 0 (fun _ => False) := by
  refine Met.ofW (cc := cX6_regionsOver) (maxL := 4) (ret := (some .int)) (by decide) rfl ?_
  intro p e s m args below meth c s₁ B hml hv
  obtain ⟨rfl, hP, hC⟩ := hv
  have hK := hC.1
  have hNW := hC.2.1
  have hx := B.exec
  have hb := B.bytes
  have hrt := B.returns
  have hts := atoms_spec (ws := wsX6_regionsOver) B.pre
  have hown : s.vm.findClass RX6 = some m.cls := findClass_of_methodNamed B.named
  have hlocks := B.notSynchronized
  have hw_0 := hts (.initialized RX9) (by decide +kernel)
  have hw_1 := hts (.static yX9_onwardFrom) (by decide +kernel)
  have hl := lv_entry ([.ref h, .int (zI (z))]) (n := 4) (Nat.le_of_ble_eq_true rfl)
  rw [lg_entry_eq]
  generalize (lg_sl ([.ref h, .int (zI (z))]) ++ List.replicate (4 - (lg_sl ([.ref h, .int (zI (z))])).length) Slot.unset).toArray = ls at hl ⊢
  have hl : lv_has ls 4 [(0, .ref h), (1, .int (zI (z)))] := hl
  obtain ⟨Q, hQ⟩ : ∃ Q, Q = MQ below (vp_Si (fun r9 => r9 = zI (ovN g z : Int))) ([.ref h, .int (zI (z))] : List Value).toArray s 0 0 (fun _ => False) := ⟨_, rfl⟩
  rw [← hQ]
  refine zr_const hx hb dX6_regionsOver_0 ?_
  refine lv_istore_n (lv' := [(2, .int (zI (0))), (0, .ref h), (1, .int (zI (z)))]) hx hb dX6_regionsOver_1 rfl hl (by decide) rfl (fun ls hl => ?_)
  refine zr_const hx hb dX6_regionsOver_2 ?_
  refine lv_istore_n (lv' := [(3, .int (zI (0))), (2, .int (zI (0))), (0, .ref h), (1, .int (zI (z)))]) hx hb dX6_regionsOver_3 rfl hl (by decide) rfl (fun ls hl => ?_)
  have cut_4 : ∀ (n9 : Nat) (i : Nat) (z3 : Int) (x2 : Int), ((i : Int) ≤ z + 1) → (z3 = i) → (x2 = ((fb_sm (fun j => pc1 (rowAt g (j : Int) &&& onM (z + 1))) i : Nat) : Int)) → z + 1 - z3 < (n9 : Int) → ∀ (ls : Array Slot), lv_has ls 4 [(0, .ref h), (1, .int (zI (z))), (2, .int (zI (x2))), (3, .int (zI (z3)))] → W p l e (headSpec wsX6_regionsOver ({ frames := 2, cells := 0, slots := 0, locals := 40 } : Room)).room s m ([.ref h, .int (zI (z))] : List Value).toArray below meth c s.heap [] 0 0 Q (F0 m 4 ls []) := by
    intro n9
    induction n9 with
    | zero =>
      intro i z3 x2 hi hz3 hx2 hfu
      exact absurd hfu (by omega)
    | succ n9 ih_4 =>
      intro i z3 x2 hi hz3 hx2 hfu ls hl
      refine lv_iload_n hx hb dX6_regionsOver_4 rfl (lv_at hl 3 rfl) ?_
      refine lv_iload_n hx hb dX6_regionsOver_5 rfl (lv_at hl 1 rfl) ?_
      refine zr_icmp_gt (tgt := 33) hx hb dX6_regionsOver_6 (by decide) (by omega) (by omega) (fun c1 => ?_) (fun c1 => ?_)
      · refine lv_iload_n hx hb dX6_regionsOver_33 rfl (lv_at hl 2 rfl) ?_
        rw [hQ]
        exact rc_iret hx hb hrt (by obtain rfl : i = z.toNat + 1 := (by omega); rw [hx2]; rfl) dX6_regionsOver_34 hlocks
      · refine lv_iload_n hx hb dX6_regionsOver_9 rfl (lv_at hl 2 rfl) ?_
        refine lv_aload_n hx hb dX6_regionsOver_10 rfl (lv_at hl 0 rfl) ?_
        refine lv_iload_n hx hb dX6_regionsOver_11 rfl (lv_at hl 3 rfl) ?_
        refine vp_callSi (va_Run.run (va_runV (As := [.int (zI (z3))]) (rest := [.int (zI (x2))]) ⟨hx, hb, hml, hown, hts⟩ (kX6_row l D k L f h r g hh hfh hr hfr (z3) (by omega)) (cwV 1 hts gX6_regionsOver_X6_row rfl rfl rfl (by decide +kernel) ⟨Nat.le_of_ble_eq_true rfl, Nat.le_of_ble_eq_true rfl⟩) (rc_preV hC hP (pl_recv hK hP hh hfh (ci := 5) (q := (RX6, TX6, 1)) rfl)) rfl rfl hl.1 rfl (lv_room (Nat.le_of_ble_eq_true rfl)) dX6_regionsOver_12 ⟨Nat.zero_le _, Nat.zero_le _⟩)) (fun r2 hr2 => ?_)
        subst hr2
        refine lv_iload_n hx hb dX6_regionsOver_15 rfl (lv_at hl 1 rfl) ?_
        refine zr_const hx hb dX6_regionsOver_16 ?_
        refine zr_add hx hb dX6_regionsOver_17 ?_
        refine vp_callSi (va_Run.run (va_runSN (As := [.int (zI (z + 1))]) (rest := [.int (rowAt g z3), .int (zI (x2))]) ⟨hx, hb, hml, hown, hts⟩ (kX9_onwardFrom l D k L f (z + 1) (by omega)) ⟨va_cnB 1 hts gX6_regionsOver_X9_onwardFrom_n32 rfl rfl rfl (hNW (.methodLinkNest RX6 32 yX9_onwardFrom "Regionry") (by decide +kernel)) hw_0 (by decide +kernel) ⟨Nat.le_of_ble_eq_true rfl, Nat.le_of_ble_eq_true rfl⟩, hw_1, trivial⟩ (rc_preS hC hP) rfl rfl hl.1 rfl (lv_room (Nat.le_of_ble_eq_true rfl)) dX6_regionsOver_18 ⟨Nat.zero_le _, Nat.zero_le _⟩)) (fun r3 hr3 => ?_)
        subst hr3
        refine lv_iand hx hb dX6_regionsOver_21 ?_
        refine vp_callSi (va_Run.run (va_runS (As := [.int ((rowAt g z3) &&& (onM (z + 1)))]) (rest := [.int (zI (x2))]) ⟨hx, hb, hml, hown, hts⟩ (kJ6_bitCount l D k L f ((rowAt g z3) &&& (onM (z + 1)))) (va_cwS 1 hts gX6_regionsOver_J6_bitCount_0f7a4 rfl rfl rfl (by decide +kernel) ⟨Nat.le_of_ble_eq_true rfl, Nat.le_of_ble_eq_true rfl⟩) (rc_preS hC hP) rfl rfl hl.1 rfl (lv_room (Nat.le_of_ble_eq_true rfl)) dX6_regionsOver_22 ⟨Nat.zero_le _, Nat.zero_le _⟩)) (fun r4 hr4 => ?_)
        subst hr4
        refine zr_add hx hb dX6_regionsOver_25 ?_
        refine lv_istore_n (lv' := [(2, .int (zI (x2 + (((pc1 ((rowAt g z3) &&& (onM (z + 1))) : Nat) : Int))))), (0, .ref h), (1, .int (zI (z))), (3, .int (zI (z3)))]) hx hb dX6_regionsOver_26 rfl hl (by decide) rfl (fun ls hl => ?_)
        refine zr_iinc (k := 3) (lv' := [(3, .int (zI (z3 + 1))), (2, .int (zI (x2 + (((pc1 ((rowAt g z3) &&& (onM (z + 1))) : Nat) : Int))))), (0, .ref h), (1, .int (zI (z)))]) hx hb dX6_regionsOver_27 hl rfl (by decide) rfl (fun ls hl => ?_)
        refine lv_goto (tgt := 4) hx hb dX6_regionsOver_30 (by decide) ?_
        exact ih_4 (i + 1) (z3 + 1) (x2 + (((pc1 ((rowAt g z3) &&& (onM (z + 1))) : Nat) : Int))) (by omega) (by omega) (by subst hz3; simp only [fb_sm_succ]; omega) (by omega) _ (lv_sub hl [2, 3, 1, 0] rfl)
  exact cut_4 ((z + 1 - (0) : Int).toNat + 1) (0) (0) (0) (by omega) (by omega) (rfl) (by omega) _ (lv_sub hl [2, 3, 1, 0] rfl)

set_option maxHeartbeats 4000000 in
set_option maxRecDepth 100000 in
theorem kX6_coveredPlaces (l : Launch) (D : va_G) (k : Nat → ClassId) (L : List Nat) (f : Nat → va_E) (h r : Nat) (g : Nat → Int32) (hh : h ∈ L) (hfh : f h = .inr (5, [.ref r])) (hr : r ∈ L) (hfr : f r = .inl (k 0, 24, .inl g)) : Met l yX6_coveredPlaces wsX6_coveredPlaces ({ frames := 3, cells := 0, slots := 0, locals := 63 } : Room) (va_Pc [.ref h] (rPre D (tyL k) (va_pl L f))) (vp_Si (fun r9 => r9 = zI (covN g : Int))) 0 0 (fun _ => False) := by
  refine Met.ofW (cc := cX6_coveredPlaces) (maxL := 3) (ret := (some .int)) (by decide) rfl ?_
  intro p e s m args below meth c s₁ B hml hv
  obtain ⟨rfl, hP, hC⟩ := hv
  have hK := hC.1
  have hNW := hC.2.1
  have hx := B.exec
  have hb := B.bytes
  have hrt := B.returns
  have hts := atoms_spec (ws := wsX6_coveredPlaces) B.pre
  have hown : s.vm.findClass RX6 = some m.cls := findClass_of_methodNamed B.named
  have hlocks := B.notSynchronized
  have hl := lv_entry ([.ref h]) (n := 3) (Nat.le_of_ble_eq_true rfl)
  rw [lg_entry_eq]
  generalize (lg_sl ([.ref h]) ++ List.replicate (3 - (lg_sl ([.ref h])).length) Slot.unset).toArray = ls at hl ⊢
  have hl : lv_has ls 3 [(0, .ref h)] := hl
  obtain ⟨Q, hQ⟩ : ∃ Q, Q = MQ below (vp_Si (fun r9 => r9 = zI (covN g : Int))) ([.ref h] : List Value).toArray s 0 0 (fun _ => False) := ⟨_, rfl⟩
  rw [← hQ]
  refine zr_const hx hb dX6_coveredPlaces_0 ?_
  refine lv_istore_n (lv' := [(1, .int (zI (0))), (0, .ref h)]) hx hb dX6_coveredPlaces_1 rfl hl (by decide) rfl (fun ls hl => ?_)
  refine zr_const hx hb dX6_coveredPlaces_2 ?_
  refine lv_istore_n (lv' := [(2, .int (zI (0))), (1, .int (zI (0))), (0, .ref h)]) hx hb dX6_coveredPlaces_3 rfl hl (by decide) rfl (fun ls hl => ?_)
  have cut_4 : ∀ (n9 : Nat) (i : Nat) (z2 : Int) (x1 : Int), (i ≤ 24) → (z2 = i) → (x1 = ((fb_ct (fun j => decide (0 < ovN g (j : Int))) i : Nat) : Int)) → 24 - z2 < (n9 : Int) → ∀ (ls : Array Slot), lv_has ls 3 [(0, .ref h), (1, .int (zI (x1))), (2, .int (zI (z2)))] → W p l e (headSpec wsX6_coveredPlaces ({ frames := 3, cells := 0, slots := 0, locals := 63 } : Room)).room s m ([.ref h] : List Value).toArray below meth c s.heap [] 0 0 Q (F0 m 4 ls []) := by
    intro n9
    induction n9 with
    | zero =>
      intro i z2 x1 hi hz2 hx1 hfu
      exact absurd hfu (by omega)
    | succ n9 ih_4 =>
      intro i z2 x1 hi hz2 hx1 hfu ls hl
      refine lv_iload_n hx hb dX6_coveredPlaces_4 rfl (lv_at hl 2 rfl) ?_
      refine zr_bipush hx hb dX6_coveredPlaces_5 (by decide) ?_
      refine zr_icmp_ge (tgt := 27) hx hb dX6_coveredPlaces_7 (by decide) (by omega) (by omega) (fun c1 => ?_) (fun c1 => ?_)
      · refine lv_iload_n hx hb dX6_coveredPlaces_27 rfl (lv_at hl 1 rfl) ?_
        rw [hQ]
        exact rc_iret hx hb hrt (by obtain rfl : i = 24 := (by omega); rw [hx1]; rfl) dX6_coveredPlaces_28 hlocks
      · refine lv_aload_n hx hb dX6_coveredPlaces_10 rfl (lv_at hl 0 rfl) ?_
        refine lv_iload_n hx hb dX6_coveredPlaces_11 rfl (lv_at hl 2 rfl) ?_
        refine vp_callSi (va_Run.run (va_runV (As := [.int (zI (z2))]) (rest := []) ⟨hx, hb, hml, hown, hts⟩ (kX6_regionsOver l D k L f h r g hh hfh hr hfr (z2) (by omega)) (cwV 1 hts gX6_coveredPlaces_X6_regionsOver rfl rfl rfl (by decide +kernel) ⟨Nat.le_of_ble_eq_true rfl, Nat.le_of_ble_eq_true rfl⟩) (rc_preV hC hP (pl_recv hK hP hh hfh (ci := 5) (q := (RX6, TX6, 1)) rfl)) rfl rfl hl.1 rfl (lv_room (Nat.le_of_ble_eq_true rfl)) dX6_coveredPlaces_12 ⟨Nat.zero_le _, Nat.zero_le _⟩)) (fun r2 hr2 => ?_)
        subst hr2
        have hov9 := ovN_le g (z := z2) (by omega)
        refine zr_if_le (tgt := 21) hx hb dX6_coveredPlaces_15 (by decide) (by omega) (fun c3 => ?_) (fun c3 => ?_)
        · refine zr_iinc (k := 2) (lv' := [(2, .int (zI (z2 + 1))), (0, .ref h), (1, .int (zI (x1)))]) hx hb dX6_coveredPlaces_21 hl rfl (by decide) rfl (fun ls hl => ?_)
          refine lv_goto (tgt := 4) hx hb dX6_coveredPlaces_24 (by decide) ?_
          exact ih_4 (i + 1) (z2 + 1) (x1) (by omega) (by omega) (by subst hz2; rw [fb_ct_succ]; first | (rw [decide_eq_true (by omega), if_pos rfl]; omega) | (rw [decide_eq_false (by omega), if_neg (by decide)]; omega)) (by omega) _ (lv_sub hl [1, 2, 0] rfl)
        · refine zr_iinc (k := 1) (lv' := [(1, .int (zI (x1 + 1))), (0, .ref h), (2, .int (zI (z2)))]) hx hb dX6_coveredPlaces_18 hl rfl (by decide) rfl (fun ls hl => ?_)
          refine zr_iinc (k := 2) (lv' := [(2, .int (zI (z2 + 1))), (1, .int (zI (x1 + 1))), (0, .ref h)]) hx hb dX6_coveredPlaces_21 hl rfl (by decide) rfl (fun ls hl => ?_)
          refine lv_goto (tgt := 4) hx hb dX6_coveredPlaces_24 (by decide) ?_
          exact ih_4 (i + 1) (z2 + 1) (x1 + 1) (by omega) (by omega) (by subst hz2; rw [fb_ct_succ]; first | (rw [decide_eq_true (by omega), if_pos rfl]; omega) | (rw [decide_eq_false (by omega), if_neg (by decide)]; omega)) (by omega) _ (lv_sub hl [2, 1, 0] rfl)
  exact cut_4 ((24 - (0) : Int).toNat + 1) (0) (0) (0) (by omega) (by omega) (rfl) (by omega) _ (lv_sub hl [2, 1, 0] rfl)

set_option maxHeartbeats 4000000 in
set_option maxRecDepth 100000 in
theorem kX6_deepestPlace (l : Launch) (D : va_G) (k : Nat → ClassId) (L : List Nat) (f : Nat → va_E) (h r : Nat) (g : Nat → Int32) (hh : h ∈ L) (hfh : f h = .inr (5, [.ref r])) (hr : r ∈ L) (hfr : f r = .inl (k 0, 24, .inl g)) : Met l yX6_deepestPlace wsX6_deepestPlace ({ frames := 3, cells := 0, slots := 0, locals := 63 } : Room) (va_Pc [.ref h] (rPre D (tyL k) (va_pl L f))) (vp_Si (fun r9 => r9 = zI (depN g : Int))) 0 0 (fun _ => False) := by
  refine Met.ofW (cc := cX6_deepestPlace) (maxL := 3) (ret := (some .int)) (by decide) rfl ?_
  intro p e s m args below meth c s₁ B hml hv
  obtain ⟨rfl, hP, hC⟩ := hv
  have hK := hC.1
  have hNW := hC.2.1
  have hx := B.exec
  have hb := B.bytes
  have hrt := B.returns
  have hts := atoms_spec (ws := wsX6_deepestPlace) B.pre
  have hown : s.vm.findClass RX6 = some m.cls := findClass_of_methodNamed B.named
  have hlocks := B.notSynchronized
  have hw_0 := hts (.methodLink RX6 38 Lib.Math.max.name) (by decide +kernel)
  have hw_1 := hts (.static Lib.Math.max.name) (by decide +kernel)
  have hw_2 := hts (.initialized "java/lang/Math") (by decide +kernel)
  have hw_3 := hts (.code Lib.Math.max.name Lib.Math.max.code 2 (some .int)) (by decide +kernel)
  have hl := lv_entry ([.ref h]) (n := 3) (Nat.le_of_ble_eq_true rfl)
  rw [lg_entry_eq]
  generalize (lg_sl ([.ref h]) ++ List.replicate (3 - (lg_sl ([.ref h])).length) Slot.unset).toArray = ls at hl ⊢
  have hl : lv_has ls 3 [(0, .ref h)] := hl
  obtain ⟨Q, hQ⟩ : ∃ Q, Q = MQ below (vp_Si (fun r9 => r9 = zI (depN g : Int))) ([.ref h] : List Value).toArray s 0 0 (fun _ => False) := ⟨_, rfl⟩
  rw [← hQ]
  refine zr_const hx hb dX6_deepestPlace_0 ?_
  refine lv_istore_n (lv' := [(1, .int (zI (0))), (0, .ref h)]) hx hb dX6_deepestPlace_1 rfl hl (by decide) rfl (fun ls hl => ?_)
  refine zr_const hx hb dX6_deepestPlace_2 ?_
  refine lv_istore_n (lv' := [(2, .int (zI (0))), (1, .int (zI (0))), (0, .ref h)]) hx hb dX6_deepestPlace_3 rfl hl (by decide) rfl (fun ls hl => ?_)
  have cut_4 : ∀ (n9 : Nat) (i : Nat) (z2 : Int) (x1 : Int), (i ≤ 24) → (z2 = i) → (0 ≤ x1 ∧ x1 ≤ 800) → (x1 = ((mxN (fun j => ovN g (j : Int)) i : Nat) : Int)) → 24 - z2 < (n9 : Int) → ∀ (ls : Array Slot), lv_has ls 3 [(0, .ref h), (1, .int (zI (x1))), (2, .int (zI (z2)))] → W p l e (headSpec wsX6_deepestPlace ({ frames := 3, cells := 0, slots := 0, locals := 63 } : Room)).room s m ([.ref h] : List Value).toArray below meth c s.heap [] 0 0 Q (F0 m 4 ls []) := by
    intro n9
    induction n9 with
    | zero =>
      intro i z2 x1 hi hz2 hb1 hx1 hfu
      exact absurd hfu (by omega)
    | succ n9 ih_4 =>
      intro i z2 x1 hi hz2 hb1 hx1 hfu ls hl
      refine lv_iload_n hx hb dX6_deepestPlace_4 rfl (lv_at hl 2 rfl) ?_
      refine zr_bipush hx hb dX6_deepestPlace_5 (by decide) ?_
      refine zr_icmp_ge (tgt := 26) hx hb dX6_deepestPlace_7 (by decide) (by omega) (by omega) (fun c1 => ?_) (fun c1 => ?_)
      · refine lv_iload_n hx hb dX6_deepestPlace_26 rfl (lv_at hl 1 rfl) ?_
        rw [hQ]
        exact rc_iret hx hb hrt (by obtain rfl : i = 24 := (by omega); rw [hx1]; rfl) dX6_deepestPlace_27 hlocks
      · refine lv_iload_n hx hb dX6_deepestPlace_10 rfl (lv_at hl 1 rfl) ?_
        refine lv_aload_n hx hb dX6_deepestPlace_11 rfl (lv_at hl 0 rfl) ?_
        refine lv_iload_n hx hb dX6_deepestPlace_12 rfl (lv_at hl 2 rfl) ?_
        refine vp_callSi (va_Run.run (va_runV (As := [.int (zI (z2))]) (rest := [.int (zI (x1))]) ⟨hx, hb, hml, hown, hts⟩ (kX6_regionsOver l D k L f h r g hh hfh hr hfr (z2) (by omega)) (cwV 1 hts gX6_deepestPlace_X6_regionsOver rfl rfl rfl (by decide +kernel) ⟨Nat.le_of_ble_eq_true rfl, Nat.le_of_ble_eq_true rfl⟩) (rc_preV hC hP (pl_recv hK hP hh hfh (ci := 5) (q := (RX6, TX6, 1)) rfl)) rfl rfl hl.1 rfl (lv_room (Nat.le_of_ble_eq_true rfl)) dX6_deepestPlace_13 ⟨Nat.zero_le _, Nat.zero_le _⟩)) (fun r2 hr2 => ?_)
        subst hr2
        have hov9 := ovN_le g (z := z2) (by omega)
        refine va_mmax hx hb (hml.trans hl.1.symm) hown hw_0 hw_1 hw_2 hw_3 (Nat.le_of_ble_eq_true rfl) (Nat.le_of_ble_eq_true rfl) (Nat.zero_le _) (Nat.zero_le _) dX6_deepestPlace_16 ?_
        refine zr_top (zI_max (by omega) (by omega)) ?_
        refine lv_istore_n (lv' := [(1, .int (zI (max x1 (((ovN g z2 : Nat) : Int))))), (0, .ref h), (2, .int (zI (z2)))]) hx hb dX6_deepestPlace_19 rfl hl (by decide) rfl (fun ls hl => ?_)
        refine zr_iinc (k := 2) (lv' := [(2, .int (zI (z2 + 1))), (1, .int (zI (max x1 (((ovN g z2 : Nat) : Int))))), (0, .ref h)]) hx hb dX6_deepestPlace_20 hl rfl (by decide) rfl (fun ls hl => ?_)
        refine lv_goto (tgt := 4) hx hb dX6_deepestPlace_23 (by decide) ?_
        exact ih_4 (i + 1) (z2 + 1) (max x1 (((ovN g z2 : Nat) : Int))) (by omega) (by omega) (by omega) (by subst hz2; simp only [mxN]; omega) (by omega) _ (lv_sub hl [2, 1, 0] rfl)
  exact cut_4 ((24 - (0) : Int).toNat + 1) (0) (0) (0) (by omega) (by omega) (by omega) (rfl) (by omega) _ (lv_sub hl [2, 1, 0] rfl)

set_option maxHeartbeats 4000000 in
set_option maxRecDepth 100000 in
theorem kX6_longestRegion (l : Launch) (D : va_G) (k : Nat → ClassId) (L : List Nat) (f : Nat → va_E) (h r : Nat) (g : Nat → Int32) (hh : h ∈ L) (hfh : f h = .inr (5, [.ref r])) (hr : r ∈ L) (hfr : f r = .inl (k 0, 24, .inl g)) : Met l yX6_longestRegion wsX6_longestRegion ({ frames := 2, cells := 0, slots := 0, locals := 44 } : Room) (va_Pc [.ref h] (rPre D (tyL k) (va_pl L f))) (vp_Si (fun r9 => r9 = zI (lonI g))) 0 0 (fun _ => False) := by
  refine Met.ofW (cc := cX6_longestRegion) (maxL := 3) (ret := (some .int)) (by decide) rfl ?_
  intro p e s m args below meth c s₁ B hml hv
  obtain ⟨rfl, hP, hC⟩ := hv
  have hK := hC.1
  have hNW := hC.2.1
  have hx := B.exec
  have hb := B.bytes
  have hrt := B.returns
  have hts := atoms_spec (ws := wsX6_longestRegion) B.pre
  have hown : s.vm.findClass RX6 = some m.cls := findClass_of_methodNamed B.named
  have hlocks := B.notSynchronized
  have hi_X6 : ∀ w ∈ u_ws RX6 TX6 1, w ∈ wsX6_longestRegion := by decide +kernel
  have hw_0 := hts (.fieldLink RX6 9 "Regionry$RegionSet" "rows" "[I") (by decide +kernel)
  have hw_1 := hts (.methodLink RX6 38 Lib.Math.max.name) (by decide +kernel)
  have hw_2 := hts (.static Lib.Math.max.name) (by decide +kernel)
  have hw_3 := hts (.initialized "java/lang/Math") (by decide +kernel)
  have hw_4 := hts (.code Lib.Math.max.name Lib.Math.max.code 2 (some .int)) (by decide +kernel)
  have hl := lv_entry ([.ref h]) (n := 3) (Nat.le_of_ble_eq_true rfl)
  rw [lg_entry_eq]
  generalize (lg_sl ([.ref h]) ++ List.replicate (3 - (lg_sl ([.ref h])).length) Slot.unset).toArray = ls at hl ⊢
  have hl : lv_has ls 3 [(0, .ref h)] := hl
  obtain ⟨Q, hQ⟩ : ∃ Q, Q = MQ below (vp_Si (fun r9 => r9 = zI (lonI g))) ([.ref h] : List Value).toArray s 0 0 (fun _ => False) := ⟨_, rfl⟩
  rw [← hQ]
  refine zr_const hx hb dX6_longestRegion_0 ?_
  refine lv_istore_n (lv' := [(1, .int (zI (0))), (0, .ref h)]) hx hb dX6_longestRegion_1 rfl hl (by decide) rfl (fun ls hl => ?_)
  refine zr_const hx hb dX6_longestRegion_2 ?_
  refine lv_istore_n (lv' := [(2, .int (zI (0))), (1, .int (zI (0))), (0, .ref h)]) hx hb dX6_longestRegion_3 rfl hl (by decide) rfl (fun ls hl => ?_)
  have cut_4 : ∀ (n9 : Nat) (i : Nat) (z2 : Int) (x1 : Int), (i ≤ 24) → (z2 = i) → (0 ≤ x1 ∧ x1 ≤ 24) → (x1 = mxI (fun j => (hiE (rowAt g (j : Int)) 24 : Int) - (j : Int)) i) → 24 - z2 < (n9 : Int) → ∀ (ls : Array Slot), lv_has ls 3 [(0, .ref h), (1, .int (zI (x1))), (2, .int (zI (z2)))] → W p l e (headSpec wsX6_longestRegion ({ frames := 2, cells := 0, slots := 0, locals := 44 } : Room)).room s m ([.ref h] : List Value).toArray below meth c s.heap [] 0 0 Q (F0 m 4 ls []) := by
    intro n9
    induction n9 with
    | zero =>
      intro i z2 x1 hi hz2 hb1 hx1 hfu
      exact absurd hfu (by omega)
    | succ n9 ih_4 =>
      intro i z2 x1 hi hz2 hb1 hx1 hfu ls hl
      refine lv_iload_n hx hb dX6_longestRegion_4 rfl (lv_at hl 2 rfl) ?_
      refine lv_aload_n hx hb dX6_longestRegion_5 rfl (lv_at hl 0 rfl) ?_
      refine pl_get (ci := 5) (v := .ref r) (C := RX6) (T := TX6) (N := 1) hx hb hts hi_X6 hown hK hP hh hfh rfl 0 (by decide) hw_0 (fun _ h9 => h9) rfl dX6_longestRegion_6 ?_
      refine pl_alen (ty := .int) hx hb hK hP hr 0 hfr rfl (24) rfl dX6_longestRegion_9 ?_
      refine zr_icmp_ge (tgt := 31) hx hb dX6_longestRegion_10 (by decide) (by omega) (by omega) (fun c1 => ?_) (fun c1 => ?_)
      · refine lv_iload_n hx hb dX6_longestRegion_31 rfl (lv_at hl 1 rfl) ?_
        rw [hQ]
        exact rc_iret hx hb hrt (by obtain rfl : i = 24 := (by omega); rw [hx1]; rfl) dX6_longestRegion_32 hlocks
      · refine lv_iload_n hx hb dX6_longestRegion_13 rfl (lv_at hl 1 rfl) ?_
        refine lv_aload_n hx hb dX6_longestRegion_14 rfl (lv_at hl 0 rfl) ?_
        refine lv_iload_n hx hb dX6_longestRegion_15 rfl (lv_at hl 2 rfl) ?_
        refine vp_callSi (va_Run.run (va_runV (As := [.int (zI (z2))]) (rest := [.int (zI (x1))]) ⟨hx, hb, hml, hown, hts⟩ (kX6_highestEnd l D k L f h r g hh hfh hr hfr (z2) (by omega)) (cwV 1 hts gX6_longestRegion_X6_highestEnd rfl rfl rfl (by decide +kernel) ⟨Nat.le_of_ble_eq_true rfl, Nat.le_of_ble_eq_true rfl⟩) (rc_preV hC hP (pl_recv hK hP hh hfh (ci := 5) (q := (RX6, TX6, 1)) rfl)) rfl rfl hl.1 rfl (lv_room (Nat.le_of_ble_eq_true rfl)) dX6_longestRegion_16 ⟨Nat.zero_le _, Nat.zero_le _⟩)) (fun r2 hr2 => ?_)
        subst hr2
        refine lv_iload_n hx hb dX6_longestRegion_19 rfl (lv_at hl 2 rfl) ?_
        refine zr_sub hx hb dX6_longestRegion_20 ?_
        have hov9 := hiE_le (rowAt g z2) 24
        refine va_mmax hx hb (hml.trans hl.1.symm) hown hw_1 hw_2 hw_3 hw_4 (Nat.le_of_ble_eq_true rfl) (Nat.le_of_ble_eq_true rfl) (Nat.zero_le _) (Nat.zero_le _) dX6_longestRegion_21 ?_
        refine zr_top (zI_max (by omega) (by omega)) ?_
        refine lv_istore_n (lv' := [(1, .int (zI (max x1 ((((hiE (rowAt g z2) 24 : Nat) : Int)) - z2)))), (0, .ref h), (2, .int (zI (z2)))]) hx hb dX6_longestRegion_24 rfl hl (by decide) rfl (fun ls hl => ?_)
        refine zr_iinc (k := 2) (lv' := [(2, .int (zI (z2 + 1))), (1, .int (zI (max x1 ((((hiE (rowAt g z2) 24 : Nat) : Int)) - z2)))), (0, .ref h)]) hx hb dX6_longestRegion_25 hl rfl (by decide) rfl (fun ls hl => ?_)
        refine lv_goto (tgt := 4) hx hb dX6_longestRegion_28 (by decide) ?_
        exact ih_4 (i + 1) (z2 + 1) (max x1 ((((hiE (rowAt g z2) 24 : Nat) : Int)) - z2)) (by omega) (by omega) (by omega) (by subst hz2; simp only [mxI]; omega) (by omega) _ (lv_sub hl [2, 1, 0] rfl)
  exact cut_4 ((24 - (0) : Int).toNat + 1) (0) (0) (0) (by omega) (by omega) (by omega) (rfl) (by omega) _ (lv_sub hl [2, 1, 0] rfl)
