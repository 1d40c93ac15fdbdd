theorem leaf_st {S : SA} {A1 A2 A3 A4 A5 A6 A7 R0 R : Nat → Int32} {i x : Nat} {v : Int32} (hO : aOK S) (hY : mSync S A1 A2 A3 A4 A5 A6 A7) (hi : i < sC S) (hx : x < 25) (hR : rqI R0 R i x (sem S i))
    (hv : (sW S i = 12 ∧ v = A2 (25 * sO S i + x)) ∨ (sW S i = 11 ∧ (((x : Int) < sN S ∧ A1 x = zI (sO S i : Int) ∧ v = zI 2 <<< (zI (x : Int) &&& 31)) ∨ (¬ ((x : Int) < sN S ∧ A1 x = zI (sO S i : Int)) ∧ v = zI 0)))) : rqI R0 (upd R (25 * i + x) v) i (x + 1) (sem S i) := by
  refine rqI_s hR hx (fun t ht => ?_)
  have hn := hO.1
  rcases hv with ⟨hw, rfl⟩ | ⟨hw, h⟩
  · rw [sem_12 hO hi hw]
    have ho : sO S i < 4 := (hO.2.2.2.2 i hi).2.2.2.1 hw
    have h2 := hY.2.1 _ ho
    by_cases c : x = 24
    · subst c
      rw [h2.2, b_0]
      exact ⟨fun h => absurd h (by decide), fun h => absurd h.1 (by omega)⟩
    · rw [h2.1 x (by omega)]
      exact ⟨fun h => ⟨by omega, ht, h⟩, fun h => h.2.2⟩
  · rw [sem_11 hO hi hw]
    rcases h with ⟨h1, h2, rfl⟩ | ⟨h1, rfl⟩
    · rw [mo_two x (by omega) t ht, decide_eq_true_eq]
      exact ⟨fun q => ⟨q, h1, by rw [← hY.1 x (by omega)]; exact h2⟩, fun q => q.1⟩
    · rw [b_z0]
      exact ⟨fun h => absurd h (by decide), fun q => absurd ⟨q.2.1, by rw [hY.1 x (by omega)]; exact q.2.2⟩ h1⟩

set_option maxHeartbeats 4000000 in
set_option maxRecDepth 100000 in
theorem kX10_layLeaf (l : Launch) (D : va_G) (k : Nat → ClassId) (L : List Nat) (f : Nat → va_E) (S : SA) (hO : aOK S) (a : Nat → Nat) (tw : Int) (A1 A2 A3 A4 A5 A6 A7 A8 A9 A10 : Nat → Int32) (hM : mRep k L f a tw ((sN S)) ((sC S : Int)) A1 A2 A3 A4 A5 A6 A7 A8 A9 A10) (hMT : 0 ≤ tw ∧ tw ≤ 3) (hY : mSync S A1 A2 A3 A4 A5 A6 A7) (i : Nat) (hi : i < sC S) (hw : sW S i = 11 ∨ sW S i = 12) (n0 sz : Nat) : Met l yX10_layLeaf wsX10_layLeaf ({ frames := 0, cells := 0, slots := 0, locals := 0 } : Room) (va_Pc [.ref (a 0), .int (zI ((i : Int)))] (pPre D (tyL k) n0 (va_pl L f) sz)) (va_Qv (fun u => ∃ (F : Nat → va_E) (R V : Nat → Int32), u = va_pl L F ∧ mRep k L F a tw ((sN S)) ((sC S : Int)) A1 A2 A3 A4 A5 A6 A7 A8 R V ∧ rqI A9 R i 25 (sem S i)) (pB D (va_pl L f) sz) (va_A (va_pl L f) sz)) 0 0 (va_A (va_pl L f) sz) := by
  refine Met.ofW (cc := cX10_layLeaf) (maxL := 4) (ret := none) (by decide) rfl ?_
  intro p e s m args below meth c s₁ B hml hv
  obtain ⟨rfl, hsz, hn9, hP, hC, hD0⟩ := hv
  have hK := hC.1
  have hNW := hC.2.1
  have hx := B.exec
  have hb := B.bytes
  have hrt := B.returns
  have hts := atoms_spec (ws := wsX10_layLeaf) B.pre
  have hown : s.vm.findClass RX10 = some m.cls := findClass_of_methodNamed B.named
  have hlocks := B.notSynchronized
  subst hsz
  obtain ⟨A, hAd⟩ : ∃ A, A = va_A (va_pl L f) s.heap.size := ⟨_, rfl⟩
  have hD := hD0.self (sz := s.heap.size)
  rw [← hAd] at hD
  have hA : ∀ q : Nat, s.heap.size ≤ q → A q := fun q h => by rw [hAd]; exact Or.inr h
  have hAn : ∀ q : Nat, A q → n0 ≤ q := fun q h => by
    rw [hAd] at h
    rcases h with ⟨k9, e9, hk9⟩ | h
    · exact hD0.2 k9 _ hk9
    · exact Nat.le_trans hn9 h
  have hS : va_S A s.heap s.heap [] := va_S.rf
  have hi_X10 : ∀ w ∈ u_ws RX10 TX10 13, w ∈ wsX10_layLeaf := by decide +kernel
  have hw_0 := hts (.fieldLink RX10 52 "RegionryModel" "length" "I") (by decide +kernel)
  have hw_1 := hts (.fieldLink RX10 35 "RegionryModel" "rows" "[I") (by decide +kernel)
  have hw_2 := hts (.fieldLink RX10 16 "RegionryModel" "whats" "[I") (by decide +kernel)
  have hw_3 := hts (.fieldLink RX10 13 "RegionryModel" "marks" "[I") (by decide +kernel)
  have hw_4 := hts (.fieldLink RX10 19 "RegionryModel" "ones" "[I") (by decide +kernel)
  have hw_5 := hts (.fieldLink RX10 7 "RegionryModel" "text" "[I") (by decide +kernel)
  have hl := lv_entry ([.ref (a 0), .int (zI ((i : Int)))]) (n := 4) (Nat.le_of_ble_eq_true rfl)
  rw [lg_entry_eq]
  generalize (lg_sl ([.ref (a 0), .int (zI ((i : Int)))]) ++ List.replicate (4 - (lg_sl ([.ref (a 0), .int (zI ((i : Int)))])).length) Slot.unset).toArray = ls at hl ⊢
  have hl : lv_has ls 4 [(0, .ref (a 0)), (1, .int (zI ((i : Int))))] := hl
  obtain ⟨Q, hQ⟩ : ∃ Q, Q = MQ below (va_Qv (fun u => ∃ (F : Nat → va_E) (R V : Nat → Int32), u = va_pl L F ∧ mRep k L F a tw ((sN S)) ((sC S : Int)) A1 A2 A3 A4 A5 A6 A7 A8 R V ∧ rqI A9 R i 25 (sem S i)) (pB D (va_pl L f) s.heap.size) (va_A (va_pl L f) s.heap.size)) ([.ref (a 0), .int (zI ((i : Int)))] : List Value).toArray s 0 0 (va_A (va_pl L f) s.heap.size) := ⟨_, rfl⟩
  rw [← hQ]
  have hMN := hO.1
  have hMC : 0 ≤ (sC S : Int) ∧ (sC S : Int) ≤ 30 := by have h8 := hO.2.2.2.1; omega
  refine zr_const hx hb dX10_layLeaf_0 ?_
  refine lv_istore_n (lv' := [(2, .int (zI (0))), (0, .ref (a 0)), (1, .int (zI ((i : Int))))]) hx hb dX10_layLeaf_1 rfl hl (by decide) rfl (fun ls hl => ?_)
  have cut_2 : ∀ (n9 : Nat) (x : Nat) (z2 : Int) (F2 : Nat → va_E) (R : Nat → Int32), (mRep k L F2 a tw ((sN S)) ((sC S : Int)) A1 A2 A3 A4 A5 A6 A7 A8 R A10) → (x ≤ 25) → (z2 = x) → (rqI A9 R i x (sem S i)) → 25 - z2 < (n9 : Int) → ∀ (H : Heap) (locs : List Loc), va_P D vwCl (va_pl L F2) H → va_D A (va_pl L F2) → va_S A s.heap H locs → ∀ (ls : Array Slot), lv_has ls 4 [(0, .ref (a 0)), (1, .int (zI ((i : Int)))), (2, .int (zI (z2)))] → W p l e (headSpec wsX10_layLeaf ({ frames := 0, cells := 0, slots := 0, locals := 0 } : Room)).room s m ([.ref (a 0), .int (zI ((i : Int)))] : List Value).toArray below meth c H locs 0 0 Q (F0 m 2 ls []) := by
    intro n9
    induction n9 with
    | zero =>
      intro x z2 F2 R hF2 hk hz2 hR hfu
      exact absurd hfu (by omega)
    | succ n9 ih_2 =>
      intro x z2 F2 R hF2 hk hz2 hR hfu H locs hP hD hS ls hl
      have ho8 := (hO.2.2.2.2 i hi).2.2.2.1
      have ho9 := (hO.2.2.2.2 i hi).2.2.1
      refine lv_iload_n hx hb dX10_layLeaf_2 rfl (lv_at hl 2 rfl) ?_
      refine zr_bipush hx hb dX10_layLeaf_3 (by decide) ?_
      refine zr_icmp_ge (tgt := 95) hx hb dX10_layLeaf_5 (by decide) (by omega) (by omega) (fun c1 => ?_) (fun c1 => ?_)
      · rw [hQ]
        exact pc_vret hx hb hrt hP (by rw [← hAd]; exact hD) (by rw [← hAd]; exact hS) (by obtain rfl : x = 25 := (by omega); exact ⟨_, _, _, rfl, hF2, hR⟩) dX10_layLeaf_95 hlocks
      · refine lv_iload_n hx hb dX10_layLeaf_8 rfl (lv_at hl 2 rfl) ?_
        refine lv_aload_n hx hb dX10_layLeaf_9 rfl (lv_at hl 0 rfl) ?_
        refine pl_get (ci := 9) (v := .int (zI ((sN S)))) (C := RX10) (T := TX10) (N := 13) hx hb hts hi_X10 hown hK hP (hF2.2.2.2.2.2.2.2.2.2.2.2.1 0 (by decide)) hF2.1 rfl 2 (by decide) hw_0 (fun _ h9 => h9) rfl dX10_layLeaf_10 ?_
        refine zr_icmp_ge (tgt := 35) hx hb dX10_layLeaf_13 (by decide) (by omega) (by omega) (fun c2 => ?_) (fun c2 => ?_)
        · refine zr_const hx hb dX10_layLeaf_35 ?_
          refine zr_top (y := bI false) (by decide) ?_
          refine lv_istore_n (lv' := [(3, .int (bI (false))), (0, .ref (a 0)), (1, .int (zI ((i : Int)))), (2, .int (zI (z2)))]) hx hb dX10_layLeaf_36 rfl hl (by decide) rfl (fun ls hl => ?_)
          refine lv_aload_n hx hb dX10_layLeaf_37 rfl (lv_at hl 1 rfl) ?_
          refine pl_get (ci := 9) (v := .ref (a 9)) (C := RX10) (T := TX10) (N := 13) hx hb hts hi_X10 hown hK hP (hF2.2.2.2.2.2.2.2.2.2.2.2.1 0 (by decide)) hF2.1 rfl 11 (by decide) hw_1 (fun _ h9 => h9) rfl dX10_layLeaf_38 ?_
          refine zr_bipush hx hb dX10_layLeaf_41 (by decide) ?_
          refine lv_iload_n hx hb dX10_layLeaf_43 rfl (lv_at hl 2 rfl) ?_
          refine zr_mul hx hb dX10_layLeaf_44 ?_
          refine lv_iload_n hx hb dX10_layLeaf_45 rfl (lv_at hl 3 rfl) ?_
          refine zr_add hx hb dX10_layLeaf_46 ?_
          refine lv_aload_n hx hb dX10_layLeaf_47 rfl (lv_at hl 1 rfl) ?_
          refine pl_get (ci := 9) (v := .ref (a 3)) (C := RX10) (T := TX10) (N := 13) hx hb hts hi_X10 hown hK hP (hF2.2.2.2.2.2.2.2.2.2.2.2.1 0 (by decide)) hF2.1 rfl 5 (by decide) hw_2 (fun _ h9 => h9) rfl dX10_layLeaf_48 ?_
          refine lv_iload_n hx hb dX10_layLeaf_51 rfl (lv_at hl 2 rfl) ?_
          refine pl_iald hx hb hK hP (hF2.2.2.2.2.2.2.2.2.2.2.2.1 3 (by decide)) 0 hF2.2.2.2.1 rfl (i) (by omega) (by omega) (by decide) dX10_layLeaf_52 ?_
          refine zr_top (hY.2.2 i hi).1 ?_
          refine zr_bipush hx hb dX10_layLeaf_53 (by decide) ?_
          refine zr_icmp_ne (tgt := 77) hx hb dX10_layLeaf_55 (by decide) (by omega) (by omega) (fun c3 => ?_) (fun c3 => ?_)
          · refine lv_iload_n hx hb dX10_layLeaf_77 rfl (lv_at hl 0 rfl) ?_
            refine zr_ifb_eq (tgt := 87) hx hb dX10_layLeaf_78 (by decide) (fun c4 => ?_) (fun c4 => ?_)
            · refine zr_const hx hb dX10_layLeaf_87 ?_
              refine pl_iast (x := (zI (0))) hx hb hK hP hD hS (hF2.2.2.2.2.2.2.2.2.2.2.2.1 9 (by decide)) 0 hF2.2.2.2.2.2.2.2.2.2.1 rfl (25 * i + x) (by omega) (by omega) (by decide) dX10_layLeaf_88 (fun H locs hP hD hS => ?_)
              have hP : va_P D vwCl (va_pl L (va_up F2 (a 9) (.inl (k 0, 750, .inl (upd R (25 * i + x) (zI (0))))))) H := hP
              have hD : va_D A (va_pl L (va_up F2 (a 9) (.inl (k 0, 750, .inl (upd R (25 * i + x) (zI (0))))))) := hD
              refine zr_iinc (k := 3) (lv' := [(2, .int (zI (z2 + 1))), (3, .int (bI (false))), (0, .ref (a 0)), (1, .int (zI ((i : Int))))]) hx hb dX10_layLeaf_89 hl rfl (by decide) rfl (fun ls hl => ?_)
              refine lv_goto (tgt := 2) hx hb dX10_layLeaf_92 (by decide) ?_
              exact ih_2 (x + 1) (z2 + 1) (va_up F2 (a 9) (.inl (k 0, 750, .inl (upd R (25 * i + x) (zI (0)))))) ((upd R (25 * i + x) (zI (0)))) ((mRep.s9 hF2 _)) (by omega) (by omega) (by have hx8 : x < 25 := (by omega); first | exact leaf_st hO hY hi hx8 hR (Or.inl ⟨by omega, rfl⟩) | exact leaf_st hO hY hi hx8 hR (Or.inr ⟨by omega, Or.inl ⟨by omega, by assumption, by rw [hz2]⟩⟩) | exact leaf_st hO hY hi hx8 hR (Or.inr ⟨by omega, Or.inr ⟨fun q8 => by omega, rfl⟩⟩) | exact leaf_st hO hY hi hx8 hR (Or.inr ⟨by omega, Or.inr ⟨fun q8 => absurd q8.2 (by assumption), rfl⟩⟩)) (by omega) _ _ hP hD hS _ (lv_sub hl [2, 3, 0] rfl)
            · exact absurd c4 (by decide)
          · refine lv_aload_n hx hb dX10_layLeaf_58 rfl (lv_at hl 1 rfl) ?_
            refine pl_get (ci := 9) (v := .ref (a 2)) (C := RX10) (T := TX10) (N := 13) hx hb hts hi_X10 hown hK hP (hF2.2.2.2.2.2.2.2.2.2.2.2.1 0 (by decide)) hF2.1 rfl 3 (by decide) hw_3 (fun _ h9 => h9) rfl dX10_layLeaf_59 ?_
            refine zr_bipush hx hb dX10_layLeaf_62 (by decide) ?_
            refine lv_aload_n hx hb dX10_layLeaf_64 rfl (lv_at hl 1 rfl) ?_
            refine pl_get (ci := 9) (v := .ref (a 4)) (C := RX10) (T := TX10) (N := 13) hx hb hts hi_X10 hown hK hP (hF2.2.2.2.2.2.2.2.2.2.2.2.1 0 (by decide)) hF2.1 rfl 6 (by decide) hw_4 (fun _ h9 => h9) rfl dX10_layLeaf_65 ?_
            refine lv_iload_n hx hb dX10_layLeaf_68 rfl (lv_at hl 2 rfl) ?_
            refine pl_iald hx hb hK hP (hF2.2.2.2.2.2.2.2.2.2.2.2.1 4 (by decide)) 0 hF2.2.2.2.2.1 rfl (i) (by omega) (by omega) (by decide) dX10_layLeaf_69 ?_
            refine zr_top (hY.2.2 i hi).2.1 ?_
            refine zr_mul hx hb dX10_layLeaf_70 ?_
            refine lv_iload_n hx hb dX10_layLeaf_71 rfl (lv_at hl 3 rfl) ?_
            refine zr_add hx hb dX10_layLeaf_72 ?_
            have ho7 := ho8 (by omega)
            refine pl_iald hx hb hK hP (hF2.2.2.2.2.2.2.2.2.2.2.2.1 2 (by decide)) 0 hF2.2.2.1 rfl (25 * sO S i + x) (by omega) (by omega) (by decide) dX10_layLeaf_73 ?_
            refine lv_goto (tgt := 88) hx hb dX10_layLeaf_74 (by decide) ?_
            refine pl_iast (x := (A2 (25 * sO S i + x))) hx hb hK hP hD hS (hF2.2.2.2.2.2.2.2.2.2.2.2.1 9 (by decide)) 0 hF2.2.2.2.2.2.2.2.2.2.1 rfl (25 * i + x) (by omega) (by omega) (by decide) dX10_layLeaf_88 (fun H locs hP hD hS => ?_)
            have hP : va_P D vwCl (va_pl L (va_up F2 (a 9) (.inl (k 0, 750, .inl (upd R (25 * i + x) (A2 (25 * sO S i + x))))))) H := hP
            have hD : va_D A (va_pl L (va_up F2 (a 9) (.inl (k 0, 750, .inl (upd R (25 * i + x) (A2 (25 * sO S i + x))))))) := hD
            refine zr_iinc (k := 3) (lv' := [(2, .int (zI (z2 + 1))), (3, .int (bI (false))), (0, .ref (a 0)), (1, .int (zI ((i : Int))))]) hx hb dX10_layLeaf_89 hl rfl (by decide) rfl (fun ls hl => ?_)
            refine lv_goto (tgt := 2) hx hb dX10_layLeaf_92 (by decide) ?_
            exact ih_2 (x + 1) (z2 + 1) (va_up F2 (a 9) (.inl (k 0, 750, .inl (upd R (25 * i + x) (A2 (25 * sO S i + x)))))) ((upd R (25 * i + x) (A2 (25 * sO S i + x)))) ((mRep.s9 hF2 _)) (by omega) (by omega) (by have hx8 : x < 25 := (by omega); first | exact leaf_st hO hY hi hx8 hR (Or.inl ⟨by omega, rfl⟩) | exact leaf_st hO hY hi hx8 hR (Or.inr ⟨by omega, Or.inl ⟨by omega, by assumption, by rw [hz2]⟩⟩) | exact leaf_st hO hY hi hx8 hR (Or.inr ⟨by omega, Or.inr ⟨fun q8 => by omega, rfl⟩⟩) | exact leaf_st hO hY hi hx8 hR (Or.inr ⟨by omega, Or.inr ⟨fun q8 => absurd q8.2 (by assumption), rfl⟩⟩)) (by omega) _ _ hP hD hS _ (lv_sub hl [2, 3, 0] rfl)
        · refine lv_aload_n hx hb dX10_layLeaf_16 rfl (lv_at hl 0 rfl) ?_
          refine pl_get (ci := 9) (v := .ref (a 1)) (C := RX10) (T := TX10) (N := 13) hx hb hts hi_X10 hown hK hP (hF2.2.2.2.2.2.2.2.2.2.2.2.1 0 (by decide)) hF2.1 rfl 1 (by decide) hw_5 (fun _ h9 => h9) rfl dX10_layLeaf_17 ?_
          refine lv_iload_n hx hb dX10_layLeaf_20 rfl (lv_at hl 2 rfl) ?_
          refine pl_iald hx hb hK hP (hF2.2.2.2.2.2.2.2.2.2.2.2.1 1 (by decide)) 0 hF2.2.1 rfl (x) (by omega) (by omega) (by decide) dX10_layLeaf_21 ?_
          refine lv_aload_n hx hb dX10_layLeaf_22 rfl (lv_at hl 0 rfl) ?_
          refine pl_get (ci := 9) (v := .ref (a 4)) (C := RX10) (T := TX10) (N := 13) hx hb hts hi_X10 hown hK hP (hF2.2.2.2.2.2.2.2.2.2.2.2.1 0 (by decide)) hF2.1 rfl 6 (by decide) hw_4 (fun _ h9 => h9) rfl dX10_layLeaf_23 ?_
          refine lv_iload_n hx hb dX10_layLeaf_26 rfl (lv_at hl 1 rfl) ?_
          refine pl_iald hx hb hK hP (hF2.2.2.2.2.2.2.2.2.2.2.2.1 4 (by decide)) 0 hF2.2.2.2.2.1 rfl (i) (by omega) (by omega) (by decide) dX10_layLeaf_27 ?_
          refine zr_top (hY.2.2 i hi).2.1 ?_
          refine lv_icmp_ne (tgt := 35) hx hb dX10_layLeaf_28 (by decide) (fun c5 => ?_) (fun c5 => ?_)
          · refine zr_const hx hb dX10_layLeaf_35 ?_
            refine zr_top (y := bI false) (by decide) ?_
            refine lv_istore_n (lv' := [(3, .int (bI (false))), (0, .ref (a 0)), (1, .int (zI ((i : Int)))), (2, .int (zI (z2)))]) hx hb dX10_layLeaf_36 rfl hl (by decide) rfl (fun ls hl => ?_)
            refine lv_aload_n hx hb dX10_layLeaf_37 rfl (lv_at hl 1 rfl) ?_
            refine pl_get (ci := 9) (v := .ref (a 9)) (C := RX10) (T := TX10) (N := 13) hx hb hts hi_X10 hown hK hP (hF2.2.2.2.2.2.2.2.2.2.2.2.1 0 (by decide)) hF2.1 rfl 11 (by decide) hw_1 (fun _ h9 => h9) rfl dX10_layLeaf_38 ?_
            refine zr_bipush hx hb dX10_layLeaf_41 (by decide) ?_
            refine lv_iload_n hx hb dX10_layLeaf_43 rfl (lv_at hl 2 rfl) ?_
            refine zr_mul hx hb dX10_layLeaf_44 ?_
            refine lv_iload_n hx hb dX10_layLeaf_45 rfl (lv_at hl 3 rfl) ?_
            refine zr_add hx hb dX10_layLeaf_46 ?_
            refine lv_aload_n hx hb dX10_layLeaf_47 rfl (lv_at hl 1 rfl) ?_
            refine pl_get (ci := 9) (v := .ref (a 3)) (C := RX10) (T := TX10) (N := 13) hx hb hts hi_X10 hown hK hP (hF2.2.2.2.2.2.2.2.2.2.2.2.1 0 (by decide)) hF2.1 rfl 5 (by decide) hw_2 (fun _ h9 => h9) rfl dX10_layLeaf_48 ?_
            refine lv_iload_n hx hb dX10_layLeaf_51 rfl (lv_at hl 2 rfl) ?_
            refine pl_iald hx hb hK hP (hF2.2.2.2.2.2.2.2.2.2.2.2.1 3 (by decide)) 0 hF2.2.2.2.1 rfl (i) (by omega) (by omega) (by decide) dX10_layLeaf_52 ?_
            refine zr_top (hY.2.2 i hi).1 ?_
            refine zr_bipush hx hb dX10_layLeaf_53 (by decide) ?_
            refine zr_icmp_ne (tgt := 77) hx hb dX10_layLeaf_55 (by decide) (by omega) (by omega) (fun c6 => ?_) (fun c6 => ?_)
            · refine lv_iload_n hx hb dX10_layLeaf_77 rfl (lv_at hl 0 rfl) ?_
              refine zr_ifb_eq (tgt := 87) hx hb dX10_layLeaf_78 (by decide) (fun c7 => ?_) (fun c7 => ?_)
              · refine zr_const hx hb dX10_layLeaf_87 ?_
                refine pl_iast (x := (zI (0))) hx hb hK hP hD hS (hF2.2.2.2.2.2.2.2.2.2.2.2.1 9 (by decide)) 0 hF2.2.2.2.2.2.2.2.2.2.1 rfl (25 * i + x) (by omega) (by omega) (by decide) dX10_layLeaf_88 (fun H locs hP hD hS => ?_)
                have hP : va_P D vwCl (va_pl L (va_up F2 (a 9) (.inl (k 0, 750, .inl (upd R (25 * i + x) (zI (0))))))) H := hP
                have hD : va_D A (va_pl L (va_up F2 (a 9) (.inl (k 0, 750, .inl (upd R (25 * i + x) (zI (0))))))) := hD
                refine zr_iinc (k := 3) (lv' := [(2, .int (zI (z2 + 1))), (3, .int (bI (false))), (0, .ref (a 0)), (1, .int (zI ((i : Int))))]) hx hb dX10_layLeaf_89 hl rfl (by decide) rfl (fun ls hl => ?_)
                refine lv_goto (tgt := 2) hx hb dX10_layLeaf_92 (by decide) ?_
                exact ih_2 (x + 1) (z2 + 1) (va_up F2 (a 9) (.inl (k 0, 750, .inl (upd R (25 * i + x) (zI (0)))))) ((upd R (25 * i + x) (zI (0)))) ((mRep.s9 hF2 _)) (by omega) (by omega) (by have hx8 : x < 25 := (by omega); first | exact leaf_st hO hY hi hx8 hR (Or.inl ⟨by omega, rfl⟩) | exact leaf_st hO hY hi hx8 hR (Or.inr ⟨by omega, Or.inl ⟨by omega, by assumption, by rw [hz2]⟩⟩) | exact leaf_st hO hY hi hx8 hR (Or.inr ⟨by omega, Or.inr ⟨fun q8 => by omega, rfl⟩⟩) | exact leaf_st hO hY hi hx8 hR (Or.inr ⟨by omega, Or.inr ⟨fun q8 => absurd q8.2 (by assumption), rfl⟩⟩)) (by omega) _ _ hP hD hS _ (lv_sub hl [2, 3, 0] rfl)
              · exact absurd c7 (by decide)
            · refine lv_aload_n hx hb dX10_layLeaf_58 rfl (lv_at hl 1 rfl) ?_
              refine pl_get (ci := 9) (v := .ref (a 2)) (C := RX10) (T := TX10) (N := 13) hx hb hts hi_X10 hown hK hP (hF2.2.2.2.2.2.2.2.2.2.2.2.1 0 (by decide)) hF2.1 rfl 3 (by decide) hw_3 (fun _ h9 => h9) rfl dX10_layLeaf_59 ?_
              refine zr_bipush hx hb dX10_layLeaf_62 (by decide) ?_
              refine lv_aload_n hx hb dX10_layLeaf_64 rfl (lv_at hl 1 rfl) ?_
              refine pl_get (ci := 9) (v := .ref (a 4)) (C := RX10) (T := TX10) (N := 13) hx hb hts hi_X10 hown hK hP (hF2.2.2.2.2.2.2.2.2.2.2.2.1 0 (by decide)) hF2.1 rfl 6 (by decide) hw_4 (fun _ h9 => h9) rfl dX10_layLeaf_65 ?_
              refine lv_iload_n hx hb dX10_layLeaf_68 rfl (lv_at hl 2 rfl) ?_
              refine pl_iald hx hb hK hP (hF2.2.2.2.2.2.2.2.2.2.2.2.1 4 (by decide)) 0 hF2.2.2.2.2.1 rfl (i) (by omega) (by omega) (by decide) dX10_layLeaf_69 ?_
              refine zr_top (hY.2.2 i hi).2.1 ?_
              refine zr_mul hx hb dX10_layLeaf_70 ?_
              refine lv_iload_n hx hb dX10_layLeaf_71 rfl (lv_at hl 3 rfl) ?_
              refine zr_add hx hb dX10_layLeaf_72 ?_
              have ho7 := ho8 (by omega)
              refine pl_iald hx hb hK hP (hF2.2.2.2.2.2.2.2.2.2.2.2.1 2 (by decide)) 0 hF2.2.2.1 rfl (25 * sO S i + x) (by omega) (by omega) (by decide) dX10_layLeaf_73 ?_
              refine lv_goto (tgt := 88) hx hb dX10_layLeaf_74 (by decide) ?_
              refine pl_iast (x := (A2 (25 * sO S i + x))) hx hb hK hP hD hS (hF2.2.2.2.2.2.2.2.2.2.2.2.1 9 (by decide)) 0 hF2.2.2.2.2.2.2.2.2.2.1 rfl (25 * i + x) (by omega) (by omega) (by decide) dX10_layLeaf_88 (fun H locs hP hD hS => ?_)
              have hP : va_P D vwCl (va_pl L (va_up F2 (a 9) (.inl (k 0, 750, .inl (upd R (25 * i + x) (A2 (25 * sO S i + x))))))) H := hP
              have hD : va_D A (va_pl L (va_up F2 (a 9) (.inl (k 0, 750, .inl (upd R (25 * i + x) (A2 (25 * sO S i + x))))))) := hD
              refine zr_iinc (k := 3) (lv' := [(2, .int (zI (z2 + 1))), (3, .int (bI (false))), (0, .ref (a 0)), (1, .int (zI ((i : Int))))]) hx hb dX10_layLeaf_89 hl rfl (by decide) rfl (fun ls hl => ?_)
              refine lv_goto (tgt := 2) hx hb dX10_layLeaf_92 (by decide) ?_
              exact ih_2 (x + 1) (z2 + 1) (va_up F2 (a 9) (.inl (k 0, 750, .inl (upd R (25 * i + x) (A2 (25 * sO S i + x)))))) ((upd R (25 * i + x) (A2 (25 * sO S i + x)))) ((mRep.s9 hF2 _)) (by omega) (by omega) (by have hx8 : x < 25 := (by omega); first | exact leaf_st hO hY hi hx8 hR (Or.inl ⟨by omega, rfl⟩) | exact leaf_st hO hY hi hx8 hR (Or.inr ⟨by omega, Or.inl ⟨by omega, by assumption, by rw [hz2]⟩⟩) | exact leaf_st hO hY hi hx8 hR (Or.inr ⟨by omega, Or.inr ⟨fun q8 => by omega, rfl⟩⟩) | exact leaf_st hO hY hi hx8 hR (Or.inr ⟨by omega, Or.inr ⟨fun q8 => absurd q8.2 (by assumption), rfl⟩⟩)) (by omega) _ _ hP hD hS _ (lv_sub hl [2, 3, 0] rfl)
          · refine zr_const hx hb dX10_layLeaf_31 ?_
            refine lv_goto (tgt := 36) hx hb dX10_layLeaf_32 (by decide) ?_
            refine zr_top (y := bI true) (by decide) ?_
            refine lv_istore_n (lv' := [(3, .int (bI (true))), (0, .ref (a 0)), (1, .int (zI ((i : Int)))), (2, .int (zI (z2)))]) hx hb dX10_layLeaf_36 rfl hl (by decide) rfl (fun ls hl => ?_)
            refine lv_aload_n hx hb dX10_layLeaf_37 rfl (lv_at hl 1 rfl) ?_
            refine pl_get (ci := 9) (v := .ref (a 9)) (C := RX10) (T := TX10) (N := 13) hx hb hts hi_X10 hown hK hP (hF2.2.2.2.2.2.2.2.2.2.2.2.1 0 (by decide)) hF2.1 rfl 11 (by decide) hw_1 (fun _ h9 => h9) rfl dX10_layLeaf_38 ?_
            refine zr_bipush hx hb dX10_layLeaf_41 (by decide) ?_
            refine lv_iload_n hx hb dX10_layLeaf_43 rfl (lv_at hl 2 rfl) ?_
            refine zr_mul hx hb dX10_layLeaf_44 ?_
            refine lv_iload_n hx hb dX10_layLeaf_45 rfl (lv_at hl 3 rfl) ?_
            refine zr_add hx hb dX10_layLeaf_46 ?_
            refine lv_aload_n hx hb dX10_layLeaf_47 rfl (lv_at hl 1 rfl) ?_
            refine pl_get (ci := 9) (v := .ref (a 3)) (C := RX10) (T := TX10) (N := 13) hx hb hts hi_X10 hown hK hP (hF2.2.2.2.2.2.2.2.2.2.2.2.1 0 (by decide)) hF2.1 rfl 5 (by decide) hw_2 (fun _ h9 => h9) rfl dX10_layLeaf_48 ?_
            refine lv_iload_n hx hb dX10_layLeaf_51 rfl (lv_at hl 2 rfl) ?_
            refine pl_iald hx hb hK hP (hF2.2.2.2.2.2.2.2.2.2.2.2.1 3 (by decide)) 0 hF2.2.2.2.1 rfl (i) (by omega) (by omega) (by decide) dX10_layLeaf_52 ?_
            refine zr_top (hY.2.2 i hi).1 ?_
            refine zr_bipush hx hb dX10_layLeaf_53 (by decide) ?_
            refine zr_icmp_ne (tgt := 77) hx hb dX10_layLeaf_55 (by decide) (by omega) (by omega) (fun c8 => ?_) (fun c8 => ?_)
            · refine lv_iload_n hx hb dX10_layLeaf_77 rfl (lv_at hl 0 rfl) ?_
              refine zr_ifb_eq (tgt := 87) hx hb dX10_layLeaf_78 (by decide) (fun c9 => ?_) (fun c9 => ?_)
              · exact absurd c9 (by decide)
              · refine zr_const hx hb dX10_layLeaf_81 ?_
                refine lv_iload_n hx hb dX10_layLeaf_82 rfl (lv_at hl 3 rfl) ?_
                refine lv_ishl hx hb dX10_layLeaf_83 ?_
                refine lv_goto (tgt := 88) hx hb dX10_layLeaf_84 (by decide) ?_
                refine pl_iast (x := ((zI (2)) <<< ((zI (z2)) &&& 31))) hx hb hK hP hD hS (hF2.2.2.2.2.2.2.2.2.2.2.2.1 9 (by decide)) 0 hF2.2.2.2.2.2.2.2.2.2.1 rfl (25 * i + x) (by omega) (by omega) (by decide) dX10_layLeaf_88 (fun H locs hP hD hS => ?_)
                have hP : va_P D vwCl (va_pl L (va_up F2 (a 9) (.inl (k 0, 750, .inl (upd R (25 * i + x) ((zI (2)) <<< ((zI (z2)) &&& 31))))))) H := hP
                have hD : va_D A (va_pl L (va_up F2 (a 9) (.inl (k 0, 750, .inl (upd R (25 * i + x) ((zI (2)) <<< ((zI (z2)) &&& 31))))))) := hD
                refine zr_iinc (k := 3) (lv' := [(2, .int (zI (z2 + 1))), (3, .int (bI (true))), (0, .ref (a 0)), (1, .int (zI ((i : Int))))]) hx hb dX10_layLeaf_89 hl rfl (by decide) rfl (fun ls hl => ?_)
                refine lv_goto (tgt := 2) hx hb dX10_layLeaf_92 (by decide) ?_
                exact ih_2 (x + 1) (z2 + 1) (va_up F2 (a 9) (.inl (k 0, 750, .inl (upd R (25 * i + x) ((zI (2)) <<< ((zI (z2)) &&& 31)))))) ((upd R (25 * i + x) ((zI (2)) <<< ((zI (z2)) &&& 31)))) ((mRep.s9 hF2 _)) (by omega) (by omega) (by have hx8 : x < 25 := (by omega); first | exact leaf_st hO hY hi hx8 hR (Or.inl ⟨by omega, rfl⟩) | exact leaf_st hO hY hi hx8 hR (Or.inr ⟨by omega, Or.inl ⟨by omega, by assumption, by rw [hz2]⟩⟩) | exact leaf_st hO hY hi hx8 hR (Or.inr ⟨by omega, Or.inr ⟨fun q8 => by omega, rfl⟩⟩) | exact leaf_st hO hY hi hx8 hR (Or.inr ⟨by omega, Or.inr ⟨fun q8 => absurd q8.2 (by assumption), rfl⟩⟩)) (by omega) _ _ hP hD hS _ (lv_sub hl [2, 3, 0] rfl)
            · refine lv_aload_n hx hb dX10_layLeaf_58 rfl (lv_at hl 1 rfl) ?_
              refine pl_get (ci := 9) (v := .ref (a 2)) (C := RX10) (T := TX10) (N := 13) hx hb hts hi_X10 hown hK hP (hF2.2.2.2.2.2.2.2.2.2.2.2.1 0 (by decide)) hF2.1 rfl 3 (by decide) hw_3 (fun _ h9 => h9) rfl dX10_layLeaf_59 ?_
              refine zr_bipush hx hb dX10_layLeaf_62 (by decide) ?_
              refine lv_aload_n hx hb dX10_layLeaf_64 rfl (lv_at hl 1 rfl) ?_
              refine pl_get (ci := 9) (v := .ref (a 4)) (C := RX10) (T := TX10) (N := 13) hx hb hts hi_X10 hown hK hP (hF2.2.2.2.2.2.2.2.2.2.2.2.1 0 (by decide)) hF2.1 rfl 6 (by decide) hw_4 (fun _ h9 => h9) rfl dX10_layLeaf_65 ?_
              refine lv_iload_n hx hb dX10_layLeaf_68 rfl (lv_at hl 2 rfl) ?_
              refine pl_iald hx hb hK hP (hF2.2.2.2.2.2.2.2.2.2.2.2.1 4 (by decide)) 0 hF2.2.2.2.2.1 rfl (i) (by omega) (by omega) (by decide) dX10_layLeaf_69 ?_
              refine zr_top (hY.2.2 i hi).2.1 ?_
              refine zr_mul hx hb dX10_layLeaf_70 ?_
              refine lv_iload_n hx hb dX10_layLeaf_71 rfl (lv_at hl 3 rfl) ?_
              refine zr_add hx hb dX10_layLeaf_72 ?_
              have ho7 := ho8 (by omega)
              refine pl_iald hx hb hK hP (hF2.2.2.2.2.2.2.2.2.2.2.2.1 2 (by decide)) 0 hF2.2.2.1 rfl (25 * sO S i + x) (by omega) (by omega) (by decide) dX10_layLeaf_73 ?_
              refine lv_goto (tgt := 88) hx hb dX10_layLeaf_74 (by decide) ?_
              refine pl_iast (x := (A2 (25 * sO S i + x))) hx hb hK hP hD hS (hF2.2.2.2.2.2.2.2.2.2.2.2.1 9 (by decide)) 0 hF2.2.2.2.2.2.2.2.2.2.1 rfl (25 * i + x) (by omega) (by omega) (by decide) dX10_layLeaf_88 (fun H locs hP hD hS => ?_)
              have hP : va_P D vwCl (va_pl L (va_up F2 (a 9) (.inl (k 0, 750, .inl (upd R (25 * i + x) (A2 (25 * sO S i + x))))))) H := hP
              have hD : va_D A (va_pl L (va_up F2 (a 9) (.inl (k 0, 750, .inl (upd R (25 * i + x) (A2 (25 * sO S i + x))))))) := hD
              refine zr_iinc (k := 3) (lv' := [(2, .int (zI (z2 + 1))), (3, .int (bI (true))), (0, .ref (a 0)), (1, .int (zI ((i : Int))))]) hx hb dX10_layLeaf_89 hl rfl (by decide) rfl (fun ls hl => ?_)
              refine lv_goto (tgt := 2) hx hb dX10_layLeaf_92 (by decide) ?_
              exact ih_2 (x + 1) (z2 + 1) (va_up F2 (a 9) (.inl (k 0, 750, .inl (upd R (25 * i + x) (A2 (25 * sO S i + x)))))) ((upd R (25 * i + x) (A2 (25 * sO S i + x)))) ((mRep.s9 hF2 _)) (by omega) (by omega) (by have hx8 : x < 25 := (by omega); first | exact leaf_st hO hY hi hx8 hR (Or.inl ⟨by omega, rfl⟩) | exact leaf_st hO hY hi hx8 hR (Or.inr ⟨by omega, Or.inl ⟨by omega, by assumption, by rw [hz2]⟩⟩) | exact leaf_st hO hY hi hx8 hR (Or.inr ⟨by omega, Or.inr ⟨fun q8 => by omega, rfl⟩⟩) | exact leaf_st hO hY hi hx8 hR (Or.inr ⟨by omega, Or.inr ⟨fun q8 => absurd q8.2 (by assumption), rfl⟩⟩)) (by omega) _ _ hP hD hS _ (lv_sub hl [2, 3, 0] rfl)
  exact cut_2 ((25 - (0) : Int).toNat + 1) (0) (0) (f) (A9) (hM) (by omega) (by omega) (rqI_0 _ _ _) (by omega) _ _ hP hD hS _ (lv_sub hl [1, 2, 0] rfl)

theorem jl_s {A B : Nat → Nat → Prop} {g z y b : Nat} {e v : Int32} (he : ∀ t, t < 32 → (bt e t = true ↔ jI A B g z y b t)) (ha : A z y) (h1 : y ≤ b) (h2 : b ≤ y + g) (hv : ∀ t, t < 32 → (bt v t = true ↔ B b t)) : ∀ t, t < 32 → (bt (e ||| v) t = true ↔ jI A B g z y (b + 1) t) := fun t ht => by
  rw [b_or, Bool.or_eq_true, he t ht, hv t ht, jI_s ha h1 h2]

set_option maxHeartbeats 4000000 in
set_option maxRecDepth 100000 in
theorem kX10_layJoined (l : Launch) (D : va_G) (k : Nat → ClassId) (L : List Nat) (f : Nat → va_E) (S : SA) (hO : aOK S) (a : Nat → Nat) (tw : Int) (A1 A2 A3 A4 A5 A6 A7 A8 A9 A10 : Nat → Int32) (hM : mRep k L f a tw ((sN S)) ((sC S : Int)) A1 A2 A3 A4 A5 A6 A7 A8 A9 A10) (hMT : 0 ≤ tw ∧ tw ≤ 3) (hY : mSync S A1 A2 A3 A4 A5 A6 A7) (i : Nat) (hi : i < sC S) (gp : Int) (hg : 0 ≤ gp ∧ gp ≤ 24) (hc : comp S i) (hQA : Rq A9 (sO S i) (sem S (sO S i))) (hQB : Rq A9 (sP S i) (sem S (sP S i))) (n0 sz : Nat) : Met l yX10_layJoined wsX10_layJoined ({ frames := 1, cells := 0, slots := 0, locals := 23 } : Room) (va_Pc [.ref (a 0), .int (zI ((i : Int))), .int (zI (gp))] (pPre D (tyL k) n0 (va_pl L f) sz)) (va_Qv (fun u => ∃ (F : Nat → va_E) (R V : Nat → Int32), u = va_pl L F ∧ mRep k L F a tw ((sN S)) ((sC S : Int)) A1 A2 A3 A4 A5 A6 A7 A8 R V ∧ rqI A9 R i 25 (sJn (sem S (sO S i)) (sem S (sP S i)) gp.toNat)) (pB D (va_pl L f) sz) (va_A (va_pl L f) sz)) 0 0 (va_A (va_pl L f) sz) := by
  refine Met.ofW (cc := cX10_layJoined) (maxL := 9) (ret := none) (by decide) rfl ?_
  intro p e s m args below meth c s₁ B hml hv
  obtain ⟨rfl, hsz, hn9, hP, hC, hD0⟩ := hv
  have hK := hC.1
  have hNW := hC.2.1
  have hx := B.exec
  have hb := B.bytes
  have hrt := B.returns
  have hts := atoms_spec (ws := wsX10_layJoined) B.pre
  have hown : s.vm.findClass RX10 = some m.cls := findClass_of_methodNamed B.named
  have hlocks := B.notSynchronized
  subst hsz
  obtain ⟨A, hAd⟩ : ∃ A, A = va_A (va_pl L f) s.heap.size := ⟨_, rfl⟩
  have hD := hD0.self (sz := s.heap.size)
  rw [← hAd] at hD
  have hA : ∀ q : Nat, s.heap.size ≤ q → A q := fun q h => by rw [hAd]; exact Or.inr h
  have hAn : ∀ q : Nat, A q → n0 ≤ q := fun q h => by
    rw [hAd] at h
    rcases h with ⟨k9, e9, hk9⟩ | h
    · exact hD0.2 k9 _ hk9
    · exact Nat.le_trans hn9 h
  have hS : va_S A s.heap s.heap [] := va_S.rf
  have hi_X10 : ∀ w ∈ u_ws RX10 TX10 13, w ∈ wsX10_layJoined := by decide +kernel
  have hw_0 := hts (.fieldLink RX10 19 "RegionryModel" "ones" "[I") (by decide +kernel)
  have hw_1 := hts (.fieldLink RX10 22 "RegionryModel" "others" "[I") (by decide +kernel)
  have hw_2 := hts (.fieldLink RX10 35 "RegionryModel" "rows" "[I") (by decide +kernel)
  have hl := lv_entry ([.ref (a 0), .int (zI ((i : Int))), .int (zI (gp))]) (n := 9) (Nat.le_of_ble_eq_true rfl)
  rw [lg_entry_eq]
  generalize (lg_sl ([.ref (a 0), .int (zI ((i : Int))), .int (zI (gp))]) ++ List.replicate (9 - (lg_sl ([.ref (a 0), .int (zI ((i : Int))), .int (zI (gp))])).length) Slot.unset).toArray = ls at hl ⊢
  have hl : lv_has ls 9 [(0, .ref (a 0)), (1, .int (zI ((i : Int)))), (2, .int (zI (gp)))] := hl
  obtain ⟨Q, hQ⟩ : ∃ Q, Q = MQ below (va_Qv (fun u => ∃ (F : Nat → va_E) (R V : Nat → Int32), u = va_pl L F ∧ mRep k L F a tw ((sN S)) ((sC S : Int)) A1 A2 A3 A4 A5 A6 A7 A8 R V ∧ rqI A9 R i 25 (sJn (sem S (sO S i)) (sem S (sP S i)) gp.toNat)) (pB D (va_pl L f) s.heap.size) (va_A (va_pl L f) s.heap.size)) ([.ref (a 0), .int (zI ((i : Int))), .int (zI (gp))] : List Value).toArray s 0 0 (va_A (va_pl L f) s.heap.size) := ⟨_, rfl⟩
  rw [← hQ]
  have hMN := hO.1
  have hMC : 0 ≤ (sC S : Int) ∧ (sC S : Int) ≤ 30 := by have h8 := hO.2.2.2.1; omega
  obtain ⟨hco, hcp⟩ := (hO.2.2.2.2 i hi).2.2.2.2.1 hc
  have hGA := sem24 hO (show sO S i < sC S by omega)
  have hGB := sem24 hO (show sP S i < sC S by omega)
  refine lv_aload_n hx hb dX10_layJoined_0 rfl (lv_at hl 0 rfl) ?_
  refine pl_get (ci := 9) (v := .ref (a 4)) (C := RX10) (T := TX10) (N := 13) hx hb hts hi_X10 hown hK hP (hM.2.2.2.2.2.2.2.2.2.2.2.1 0 (by decide)) hM.1 rfl 6 (by decide) hw_0 (fun _ h9 => h9) rfl dX10_layJoined_1 ?_
  refine lv_iload_n hx hb dX10_layJoined_4 rfl (lv_at hl 1 rfl) ?_
  refine pl_iald hx hb hK hP (hM.2.2.2.2.2.2.2.2.2.2.2.1 4 (by decide)) 0 hM.2.2.2.2.1 rfl (i) (by omega) (by omega) (by decide) dX10_layJoined_5 ?_
  refine zr_top (hY.2.2 i hi).2.1 ?_
  refine lv_istore_n (lv' := [(3, .int (zI ((sO S i : Int)))), (0, .ref (a 0)), (1, .int (zI ((i : Int)))), (2, .int (zI (gp)))]) hx hb dX10_layJoined_6 rfl hl (by decide) rfl (fun ls hl => ?_)
  refine lv_aload_n hx hb dX10_layJoined_7 rfl (lv_at hl 1 rfl) ?_
  refine pl_get (ci := 9) (v := .ref (a 5)) (C := RX10) (T := TX10) (N := 13) hx hb hts hi_X10 hown hK hP (hM.2.2.2.2.2.2.2.2.2.2.2.1 0 (by decide)) hM.1 rfl 7 (by decide) hw_1 (fun _ h9 => h9) rfl dX10_layJoined_8 ?_
  refine lv_iload_n hx hb dX10_layJoined_11 rfl (lv_at hl 2 rfl) ?_
  refine pl_iald hx hb hK hP (hM.2.2.2.2.2.2.2.2.2.2.2.1 5 (by decide)) 0 hM.2.2.2.2.2.1 rfl (i) (by omega) (by omega) (by decide) dX10_layJoined_12 ?_
  refine zr_top ((hY.2.2 i hi).2.2.1 (by first | assumption | exact ⟨by omega, by omega⟩)) ?_
  refine lv_istore (lv' := [(4, .int (zI ((sP S i : Int)))), (3, .int (zI ((sO S i : Int)))), (0, .ref (a 0)), (1, .int (zI ((i : Int)))), (2, .int (zI (gp)))]) hx hb dX10_layJoined_13 hl (by decide) rfl (fun ls hl => ?_)
  refine zr_const hx hb dX10_layJoined_15 ?_
  refine lv_istore (lv' := [(5, .int (zI (0))), (4, .int (zI ((sP S i : Int)))), (3, .int (zI ((sO S i : Int)))), (0, .ref (a 0)), (1, .int (zI ((i : Int)))), (2, .int (zI (gp)))]) hx hb dX10_layJoined_16 hl (by decide) rfl (fun ls hl => ?_)
  have cut_18 : ∀ (n9 : Nat) (x : Nat) (z5 : Int) (F18 : Nat → va_E) (R : Nat → Int32), (mRep k L F18 a tw ((sN S)) ((sC S : Int)) A1 A2 A3 A4 A5 A6 A7 A8 R A10) → (x ≤ 25) → (z5 = x) → (rqI A9 R i x (sJn (sem S (sO S i)) (sem S (sP S i)) gp.toNat)) → 25 - z5 < (n9 : Int) → ∀ (H : Heap) (locs : List Loc), va_P D vwCl (va_pl L F18) H → va_D A (va_pl L F18) → va_S A s.heap H locs → ∀ (ls : Array Slot), lv_has ls 9 [(0, .ref (a 0)), (1, .int (zI ((i : Int)))), (2, .int (zI (gp))), (3, .int (zI ((sO S i : Int)))), (4, .int (zI ((sP S i : Int)))), (5, .int (zI (z5)))] → W p l e (headSpec wsX10_layJoined ({ frames := 1, cells := 0, slots := 0, locals := 23 } : Room)).room s m ([.ref (a 0), .int (zI ((i : Int))), .int (zI (gp))] : List Value).toArray below meth c H locs 0 0 Q (F0 m 18 ls []) := by
    intro n9
    induction n9 with
    | zero =>
      intro x z5 F18 R hF18 hk hz5 hR hfu
      exact absurd hfu (by omega)
    | succ n9 ih_18 =>
      intro x z5 F18 R hF18 hk hz5 hR hfu H locs hP hD hS ls hl
      have hKA := hR.keep (by omega) hQA
      have hKB := hR.keep (by omega) hQB
      refine lv_iload hx hb dX10_layJoined_18 (lv_at hl 5 rfl) ?_
      refine zr_bipush hx hb dX10_layJoined_20 (by decide) ?_
      refine zr_icmp_ge (tgt := 123) hx hb dX10_layJoined_22 (by decide) (by omega) (by omega) (fun c1 => ?_) (fun c1 => ?_)
      · rw [hQ]
        exact pc_vret hx hb hrt hP (by rw [← hAd]; exact hD) (by rw [← hAd]; exact hS) (by obtain rfl : x = 25 := (by omega); exact ⟨_, _, _, rfl, hF18, hR⟩) dX10_layJoined_123 hlocks
      · refine zr_const hx hb dX10_layJoined_25 ?_
        refine lv_istore (lv' := [(6, .int (zI (0))), (0, .ref (a 0)), (1, .int (zI ((i : Int)))), (2, .int (zI (gp))), (3, .int (zI ((sO S i : Int)))), (4, .int (zI ((sP S i : Int)))), (5, .int (zI (z5)))]) hx hb dX10_layJoined_26 hl (by decide) rfl (fun ls hl => ?_)
        refine lv_iload hx hb dX10_layJoined_28 (lv_at hl 6 rfl) ?_
        refine zr_const hx hb dX10_layJoined_30 ?_
        refine zr_add hx hb dX10_layJoined_31 ?_
        refine lv_istore (lv' := [(7, .int (zI (z5 + 1))), (6, .int (zI (0))), (0, .ref (a 0)), (1, .int (zI ((i : Int)))), (2, .int (zI (gp))), (3, .int (zI ((sO S i : Int)))), (4, .int (zI ((sP S i : Int)))), (5, .int (zI (z5)))]) hx hb dX10_layJoined_32 hl (by decide) rfl (fun ls hl => ?_)
        have cut_34 : ∀ (n9 : Nat) (y : Nat) (z7 : Int) (ev : Int32), (x < y ∧ y ≤ 25) → (z7 = y) → (∀ t, t < 32 → (bt ev t = true ↔ jM (sem S (sO S i)) (sem S (sP S i)) gp.toNat x y t)) → 25 - z7 < (n9 : Int) → ∀ (H : Heap) (locs : List Loc), va_P D vwCl (va_pl L F18) H → va_D A (va_pl L F18) → va_S A s.heap H locs → ∀ (ls : Array Slot), lv_has ls 9 [(0, .ref (a 0)), (1, .int (zI ((i : Int)))), (2, .int (zI (gp))), (3, .int (zI ((sO S i : Int)))), (4, .int (zI ((sP S i : Int)))), (5, .int (zI (z5))), (6, .int (ev)), (7, .int (zI (z7)))] → W p l e (headSpec wsX10_layJoined ({ frames := 1, cells := 0, slots := 0, locals := 23 } : Room)).room s m ([.ref (a 0), .int (zI ((i : Int))), .int (zI (gp))] : List Value).toArray below meth c H locs 0 0 Q (F0 m 34 ls []) := by
          intro n9
          induction n9 with
          | zero =>
            intro y z7 ev hk2 hz7 he hfu
            exact absurd hfu (by omega)
          | succ n9 ih_34 =>
            intro y z7 ev hk2 hz7 he hfu H locs hP hD hS ls hl
            refine lv_iload hx hb dX10_layJoined_34 (lv_at hl 7 rfl) ?_
            refine zr_bipush hx hb dX10_layJoined_36 (by decide) ?_
            refine zr_icmp_ge (tgt := 103) hx hb dX10_layJoined_38 (by decide) (by omega) (by omega) (fun c2 => ?_) (fun c2 => ?_)
            · refine lv_aload_n hx hb dX10_layJoined_103 rfl (lv_at hl 0 rfl) ?_
              refine pl_get (ci := 9) (v := .ref (a 9)) (C := RX10) (T := TX10) (N := 13) hx hb hts hi_X10 hown hK hP (hF18.2.2.2.2.2.2.2.2.2.2.2.1 0 (by decide)) hF18.1 rfl 11 (by decide) hw_2 (fun _ h9 => h9) rfl dX10_layJoined_104 ?_
              refine zr_bipush hx hb dX10_layJoined_107 (by decide) ?_
              refine lv_iload_n hx hb dX10_layJoined_109 rfl (lv_at hl 1 rfl) ?_
              refine zr_mul hx hb dX10_layJoined_110 ?_
              refine lv_iload hx hb dX10_layJoined_111 (lv_at hl 5 rfl) ?_
              refine zr_add hx hb dX10_layJoined_113 ?_
              refine lv_iload hx hb dX10_layJoined_114 (lv_at hl 6 rfl) ?_
              refine pl_iast (x := ev) hx hb hK hP hD hS (hF18.2.2.2.2.2.2.2.2.2.2.2.1 9 (by decide)) 0 hF18.2.2.2.2.2.2.2.2.2.1 rfl (25 * i + x) (by omega) (by omega) (by decide) dX10_layJoined_116 (fun H locs hP hD hS => ?_)
              have hP : va_P D vwCl (va_pl L (va_up F18 (a 9) (.inl (k 0, 750, .inl (upd R (25 * i + x) ev))))) H := hP
              have hD : va_D A (va_pl L (va_up F18 (a 9) (.inl (k 0, 750, .inl (upd R (25 * i + x) ev))))) := hD
              refine zr_iinc (k := 5) (lv' := [(5, .int (zI (z5 + 1))), (0, .ref (a 0)), (1, .int (zI ((i : Int)))), (2, .int (zI (gp))), (3, .int (zI ((sO S i : Int)))), (4, .int (zI ((sP S i : Int)))), (6, .int (ev)), (7, .int (zI (z7)))]) hx hb dX10_layJoined_117 hl rfl (by decide) rfl (fun ls hl => ?_)
              refine lv_goto (tgt := 18) hx hb dX10_layJoined_120 (by decide) ?_
              exact ih_18 (x + 1) (z5 + 1) (va_up F18 (a 9) (.inl (k 0, 750, .inl (upd R (25 * i + x) ev)))) ((upd R (25 * i + x) ev)) ((mRep.s9 hF18 _)) (by omega) (by omega) (by obtain rfl : y = 25 := (by omega); exact rqI_s hR (by omega) (fun t ht => (he t ht).trans (jM_e hGA))) (by omega) _ _ hP hD hS _ (lv_sub hl [1, 2, 3, 4, 5, 0] rfl)
            · refine lv_iload hx hb dX10_layJoined_41 (lv_at hl 7 rfl) ?_
              refine lv_istore (lv' := [(8, .int (zI (z7))), (0, .ref (a 0)), (1, .int (zI ((i : Int)))), (2, .int (zI (gp))), (3, .int (zI ((sO S i : Int)))), (4, .int (zI ((sP S i : Int)))), (5, .int (zI (z5))), (6, .int (ev)), (7, .int (zI (z7)))]) hx hb dX10_layJoined_43 hl (by decide) rfl (fun ls hl => ?_)
              have cut_45 : ∀ (n9 : Nat) (bb : Nat) (z8 : Int) (ev2 : Int32), (y ≤ bb ∧ bb ≤ 25) → (z8 = bb) → (∀ t, t < 32 → (bt ev2 t = true ↔ jI (sem S (sO S i)) (sem S (sP S i)) gp.toNat x y bb t)) → 25 - z8 < (n9 : Int) → ∀ (H : Heap) (locs : List Loc), va_P D vwCl (va_pl L F18) H → va_D A (va_pl L F18) → va_S A s.heap H locs → ∀ (ls : Array Slot), lv_has ls 9 [(0, .ref (a 0)), (1, .int (zI ((i : Int)))), (2, .int (zI (gp))), (3, .int (zI ((sO S i : Int)))), (4, .int (zI ((sP S i : Int)))), (5, .int (zI (z5))), (6, .int (ev2)), (7, .int (zI (z7))), (8, .int (zI (z8)))] → W p l e (headSpec wsX10_layJoined ({ frames := 1, cells := 0, slots := 0, locals := 23 } : Room)).room s m ([.ref (a 0), .int (zI ((i : Int))), .int (zI (gp))] : List Value).toArray below meth c H locs 0 0 Q (F0 m 45 ls []) := by
                intro n9
                induction n9 with
                | zero =>
                  intro bb z8 ev2 hk3 hz8 he2 hfu
                  exact absurd hfu (by omega)
                | succ n9 ih_45 =>
                  intro bb z8 ev2 hk3 hz8 he2 hfu H locs hP hD hS ls hl
                  refine lv_iload hx hb dX10_layJoined_45 (lv_at hl 8 rfl) ?_
                  refine zr_bipush hx hb dX10_layJoined_47 (by decide) ?_
                  refine zr_icmp_ge (tgt := 97) hx hb dX10_layJoined_49 (by decide) (by omega) (by omega) (fun c3 => ?_) (fun c3 => ?_)
                  · refine zr_iinc (k := 7) (lv' := [(7, .int (zI (z7 + 1))), (0, .ref (a 0)), (1, .int (zI ((i : Int)))), (2, .int (zI (gp))), (3, .int (zI ((sO S i : Int)))), (4, .int (zI ((sP S i : Int)))), (5, .int (zI (z5))), (6, .int (ev2)), (8, .int (zI (z8)))]) hx hb dX10_layJoined_97 hl rfl (by decide) rfl (fun ls hl => ?_)
                    refine lv_goto (tgt := 34) hx hb dX10_layJoined_100 (by decide) ?_
                    exact ih_34 (y + 1) (z7 + 1) (ev2) (by omega) (by omega) (fun t ht => (he2 t ht).trans (jI_e hGB (by first | exact Or.inl (by omega) | exact Or.inr (Or.inl (by omega)) | exact Or.inr (Or.inr (fun q8 => b_tf ((hKA x (by omega) y (by omega)).mpr q8) (by assumption))))).symm) (by omega) _ _ hP hD hS _ (lv_sub hl [1, 2, 3, 4, 5, 6, 7, 0] rfl)
                  · refine lv_iload hx hb dX10_layJoined_52 (lv_at hl 8 rfl) ?_
                    refine lv_iload hx hb dX10_layJoined_54 (lv_at hl 7 rfl) ?_
                    refine lv_iload_n hx hb dX10_layJoined_56 rfl (lv_at hl 2 rfl) ?_
                    refine zr_add hx hb dX10_layJoined_57 ?_
                    refine zr_icmp_gt (tgt := 97) hx hb dX10_layJoined_58 (by decide) (by omega) (by omega) (fun c4 => ?_) (fun c4 => ?_)
                    · refine zr_iinc (k := 7) (lv' := [(7, .int (zI (z7 + 1))), (0, .ref (a 0)), (1, .int (zI ((i : Int)))), (2, .int (zI (gp))), (3, .int (zI ((sO S i : Int)))), (4, .int (zI ((sP S i : Int)))), (5, .int (zI (z5))), (6, .int (ev2)), (8, .int (zI (z8)))]) hx hb dX10_layJoined_97 hl rfl (by decide) rfl (fun ls hl => ?_)
                      refine lv_goto (tgt := 34) hx hb dX10_layJoined_100 (by decide) ?_
                      exact ih_34 (y + 1) (z7 + 1) (ev2) (by omega) (by omega) (fun t ht => (he2 t ht).trans (jI_e hGB (by first | exact Or.inl (by omega) | exact Or.inr (Or.inl (by omega)) | exact Or.inr (Or.inr (fun q8 => b_tf ((hKA x (by omega) y (by omega)).mpr q8) (by assumption))))).symm) (by omega) _ _ hP hD hS _ (lv_sub hl [1, 2, 3, 4, 5, 6, 7, 0] rfl)
                    · refine lv_aload_n hx hb dX10_layJoined_61 rfl (lv_at hl 0 rfl) ?_
                      refine lv_iload_n hx hb dX10_layJoined_62 rfl (lv_at hl 3 rfl) ?_
                      refine lv_iload hx hb dX10_layJoined_63 (lv_at hl 5 rfl) ?_
                      refine lv_iload hx hb dX10_layJoined_65 (lv_at hl 7 rfl) ?_
                      rw [show (sO S i : Int) = (((sO S i) : Nat) : Int) by omega]
                      rw [show z5 = ((x : Nat) : Int) by omega]
                      rw [show z7 = ((y : Nat) : Int) by omega]
                      refine vp_callSi (va_Run.run (va_runV (As := [.int (zI (((sO S i) : Int))), .int (zI ((x : Int))), .int (zI ((y : Int)))]) (rest := []) ⟨hx, hb, hml, hown, hts⟩ (kX10_holds l D k L F18 a tw ((sN S)) ((sC S : Int)) A1 A2 A3 A4 A5 A6 A7 A8 R A10 hF18 (by omega) (by omega) (by omega) ((sO S i)) x y (by omega) (by omega) (by omega)) (cwV 3 hts gX10_layJoined_X10_holds rfl rfl rfl (by decide +kernel) ⟨Nat.le_of_ble_eq_true rfl, Nat.le_of_ble_eq_true rfl⟩) (rc_preV hC hP (pl_recv hK hP (hF18.2.2.2.2.2.2.2.2.2.2.2.1 0 (by decide)) hF18.1 (ci := 9) (q := (RX10, TX10, 13)) rfl)) rfl rfl hl.1 rfl (lv_room (Nat.le_of_ble_eq_true rfl)) dX10_layJoined_67 ⟨Nat.zero_le _, Nat.zero_le _⟩)) (fun r5 hr5 => ?_)
                      subst hr5
                      refine zr_ifb_eq (tgt := 97) hx hb dX10_layJoined_70 (by decide) (fun c6 => ?_) (fun c6 => ?_)
                      · refine zr_iinc (k := 7) (lv' := [(7, .int (zI (z7 + 1))), (0, .ref (a 0)), (1, .int (zI ((i : Int)))), (2, .int (zI (gp))), (3, .int (zI ((sO S i : Int)))), (4, .int (zI ((sP S i : Int)))), (5, .int (zI (z5))), (6, .int (ev2)), (8, .int (zI (z8)))]) hx hb dX10_layJoined_97 hl rfl (by decide) rfl (fun ls hl => ?_)
                        refine lv_goto (tgt := 34) hx hb dX10_layJoined_100 (by decide) ?_
                        exact ih_34 (y + 1) (z7 + 1) (ev2) (by omega) (by omega) (fun t ht => (he2 t ht).trans (jI_e hGB (by first | exact Or.inl (by omega) | exact Or.inr (Or.inl (by omega)) | exact Or.inr (Or.inr (fun q8 => b_tf ((hKA x (by omega) y (by omega)).mpr q8) (by assumption))))).symm) (by omega) _ _ hP hD hS _ (lv_sub hl [1, 2, 3, 4, 5, 6, 7, 0] rfl)
                      · refine lv_iload hx hb dX10_layJoined_73 (lv_at hl 6 rfl) ?_
                        refine lv_aload_n hx hb dX10_layJoined_75 rfl (lv_at hl 0 rfl) ?_
                        refine pl_get (ci := 9) (v := .ref (a 9)) (C := RX10) (T := TX10) (N := 13) hx hb hts hi_X10 hown hK hP (hF18.2.2.2.2.2.2.2.2.2.2.2.1 0 (by decide)) hF18.1 rfl 11 (by decide) hw_2 (fun _ h9 => h9) rfl dX10_layJoined_76 ?_
                        refine zr_bipush hx hb dX10_layJoined_79 (by decide) ?_
                        refine lv_iload hx hb dX10_layJoined_81 (lv_at hl 4 rfl) ?_
                        refine zr_mul hx hb dX10_layJoined_83 ?_
                        refine lv_iload hx hb dX10_layJoined_84 (lv_at hl 8 rfl) ?_
                        refine zr_add hx hb dX10_layJoined_86 ?_
                        refine pl_iald hx hb hK hP (hF18.2.2.2.2.2.2.2.2.2.2.2.1 9 (by decide)) 0 hF18.2.2.2.2.2.2.2.2.2.1 rfl (25 * sP S i + bb) (by omega) (by omega) (by decide) dX10_layJoined_87 ?_
                        refine lv_ior hx hb dX10_layJoined_88 ?_
                        refine lv_istore (lv' := [(6, .int (ev2 ||| (R (25 * sP S i + bb)))), (0, .ref (a 0)), (1, .int (zI ((i : Int)))), (2, .int (zI (gp))), (3, .int (zI ((sO S i : Int)))), (4, .int (zI ((sP S i : Int)))), (5, .int (zI (z5))), (7, .int (zI (z7))), (8, .int (zI (z8)))]) hx hb dX10_layJoined_89 hl (by decide) rfl (fun ls hl => ?_)
                        refine zr_iinc (k := 8) (lv' := [(8, .int (zI (z8 + 1))), (6, .int (ev2 ||| (R (25 * sP S i + bb)))), (0, .ref (a 0)), (1, .int (zI ((i : Int)))), (2, .int (zI (gp))), (3, .int (zI ((sO S i : Int)))), (4, .int (zI ((sP S i : Int)))), (5, .int (zI (z5))), (7, .int (zI (z7)))]) hx hb dX10_layJoined_91 hl rfl (by decide) rfl (fun ls hl => ?_)
                        refine lv_goto (tgt := 45) hx hb dX10_layJoined_94 (by decide) ?_
                        exact ih_45 (bb + 1) (z8 + 1) (ev2 ||| (R (25 * sP S i + bb))) (by omega) (by omega) (jl_s he2 ((hKA x (by omega) y (by omega)).mp (by assumption)) (by omega) (by omega) (hKB bb (by omega))) (by omega) _ _ hP hD hS _ (lv_sub hl [2, 3, 4, 5, 6, 7, 1, 8, 0] rfl)
              exact cut_45 ((25 - (z7) : Int).toNat + 1) (y) (z7) (ev) (by omega) (by omega) (fun t ht => (he t ht).trans jI_0.symm) (by omega) _ _ hP hD hS _ (lv_sub hl [1, 2, 3, 4, 5, 6, 7, 8, 0] rfl)
        exact cut_34 ((25 - (z5 + 1) : Int).toNat + 1) (x + 1) (z5 + 1) (zI 0) (by omega) (by omega) (fun t ht => by rw [b_z0]; exact ⟨fun h => absurd h (by decide), fun h => absurd h (jM_0 hGA)⟩) (by omega) _ _ hP hD hS _ (lv_sub hl [2, 3, 4, 5, 6, 7, 1, 0] rfl)
  exact cut_18 ((25 - (0) : Int).toNat + 1) (0) (0) (f) (A9) (hM) (by omega) (by omega) (rqI_0 _ _ _) (by omega) _ _ hP hD hS _ (lv_sub hl [3, 4, 5, 2, 1, 0] rfl)

theorem updz {V g : Nat → Int32} {x : Nat} {v : Int32} (h : ∀ q, q < x → V q = g q) (hv : v = g x) : ∀ q, q < x + 1 → upd V x v q = g q := fun q hq => by
  by_cases c : q = x
  · rw [c, pk_us]; exact hv
  · rw [pk_un c]; exact h q (by omega)
/-- moved rows below the place k of 625 -/
def rqK (V : Nat → Int32) (k : Nat) (P : Nat → Nat → Prop) : Prop := ∀ z, z < 25 → ∀ t, t < 32 → (bt (V z) t = true ↔ P z t ∧ 25 * z + t < k)
theorem rqK_0 {V : Nat → Int32} (h : ∀ z, z < 25 → V z = zI 0) (P : Nat → Nat → Prop) : rqK V 0 P := fun z hz t ht => by
  rw [h z hz, b_z0]
  exact ⟨fun h => absurd h (by decide), fun h => absurd h.2 (Nat.not_lt_zero _)⟩
theorem rqK_n {V : Nat → Int32} {k : Nat} {P : Nat → Nat → Prop} (h : rqK V k P) (hP : Rg 24 P) (hn : ¬ P (k / 25) (k % 25)) : rqK V (k + 1) P := fun z hz t ht => by
  rw [h z hz t ht]
  constructor
  · exact fun q => ⟨q.1, by omega⟩
  · rintro ⟨a, b⟩
    have := hP z t a
    refine ⟨a, ?_⟩
    by_cases c : 25 * z + t = k
    · refine absurd ?_ hn
      rw [show k / 25 = z by omega, show k % 25 = t by omega]
      exact a
    · omega
theorem rqK_y {V : Nat → Int32} {k : Nat} {P : Nat → Nat → Prop} (h : rqK V k P) (hP : Rg 24 P) (hk : k < 625) (hy : P (k / 25) (k % 25)) : rqK (upd V (k / 25) (V (k / 25) ||| pw (k % 25))) (k + 1) P := fun z hz t ht => by
  by_cases c : z = k / 25
  · rw [← c, pk_us, b_or, Bool.or_eq_true, h z hz t ht, bt_pw (by omega), decide_eq_true_eq]
    constructor
    · rintro (q | q)
      · exact ⟨q.1, by omega⟩
      · exact ⟨by rw [c, q]; exact hy, by omega⟩
    · rintro ⟨a, b⟩
      have := hP z t a
      by_cases d : t = k % 25
      · exact Or.inr d
      · exact Or.inl ⟨a, by omega⟩
  · rw [pk_un c, h z hz t ht]
    exact ⟨fun q => ⟨q.1, by omega⟩, fun q => ⟨q.1, by have := hP z t q.1; omega⟩⟩
theorem rqK_e {V : Nat → Int32} {P : Nat → Nat → Prop} (h : rqK V 625 P) (hP : Rg 24 P) {z t : Nat} (hz : z < 25) (ht : t < 32) : bt (V z) t = true ↔ P z t := by
  rw [h z hz t ht]
  exact ⟨fun q => q.1, fun q => ⟨q, by have := hP z t q; omega⟩⟩
theorem sIi_g {A : Nat → Nat → Prop} (h : Rg 24 A) : Rg 24 (sIi A) := fun z t q => h z t q.1

set_option maxHeartbeats 4000000 in
set_option maxRecDepth 100000 in
theorem kX10_leaveInner (l : Launch) (D : va_G) (k : Nat → ClassId) (L : List Nat) (f : Nat → va_E) (a : Nat → Nat) (tw n cn : Int) (A1 A2 A3 A4 A5 A6 A7 A8 A9 A10 : Nat → Int32) (hM : mRep k L f a tw n cn A1 A2 A3 A4 A5 A6 A7 A8 A9 A10) (hMC : 0 ≤ cn ∧ cn ≤ 30) (hMT : 0 ≤ tw ∧ tw ≤ 3) (hMN : 0 ≤ n ∧ n ≤ 24) (i : Nat) (hi : i < 30) (J : Nat → Nat → Prop) (hJ : Rg 24 J) (hQJ : Rq A9 i J) (n0 sz : Nat) : Met l yX10_leaveInner wsX10_leaveInner ({ frames := 2, cells := 0, slots := 0, locals := 47 } : Room) (va_Pc [.ref (a 0), .int (zI ((i : Int)))] (pPre D (tyL k) n0 (va_pl L f) sz)) (va_Qv (fun u => ∃ (F : Nat → va_E) (R V : Nat → Int32), u = va_pl L F ∧ mRep k L F a tw n cn A1 A2 A3 A4 A5 A6 A7 A8 R V ∧ rqI A9 R i 25 (sIi J)) (pB D (va_pl L f) sz) (va_A (va_pl L f) sz)) 0 0 (va_A (va_pl L f) sz) := by
  refine Met.ofW (cc := cX10_leaveInner) (maxL := 5) (ret := none) (by decide) rfl ?_
  intro p e s m args below meth c s₁ B hml hv
  obtain ⟨rfl, hsz, hn9, hP, hC, hD0⟩ := hv
  have hK := hC.1
  have hNW := hC.2.1
  have hx := B.exec
  have hb := B.bytes
  have hrt := B.returns
  have hts := atoms_spec (ws := wsX10_leaveInner) B.pre
  have hown : s.vm.findClass RX10 = some m.cls := findClass_of_methodNamed B.named
  have hlocks := B.notSynchronized
  subst hsz
  obtain ⟨A, hAd⟩ : ∃ A, A = va_A (va_pl L f) s.heap.size := ⟨_, rfl⟩
  have hD := hD0.self (sz := s.heap.size)
  rw [← hAd] at hD
  have hA : ∀ q : Nat, s.heap.size ≤ q → A q := fun q h => by rw [hAd]; exact Or.inr h
  have hAn : ∀ q : Nat, A q → n0 ≤ q := fun q h => by
    rw [hAd] at h
    rcases h with ⟨k9, e9, hk9⟩ | h
    · exact hD0.2 k9 _ hk9
    · exact Nat.le_trans hn9 h
  have hS : va_S A s.heap s.heap [] := va_S.rf
  have hi_X10 : ∀ w ∈ u_ws RX10 TX10 13, w ∈ wsX10_leaveInner := by decide +kernel
  have hw_0 := hts (.fieldLink RX10 35 "RegionryModel" "rows" "[I") (by decide +kernel)
  have hw_1 := hts (.fieldLink RX10 38 "RegionryModel" "moved" "[I") (by decide +kernel)
  have hl := lv_entry ([.ref (a 0), .int (zI ((i : Int)))]) (n := 5) (Nat.le_of_ble_eq_true rfl)
  rw [lg_entry_eq]
  generalize (lg_sl ([.ref (a 0), .int (zI ((i : Int)))]) ++ List.replicate (5 - (lg_sl ([.ref (a 0), .int (zI ((i : Int)))])).length) Slot.unset).toArray = ls at hl ⊢
  have hl : lv_has ls 5 [(0, .ref (a 0)), (1, .int (zI ((i : Int))))] := hl
  obtain ⟨Q, hQ⟩ : ∃ Q, Q = MQ below (va_Qv (fun u => ∃ (F : Nat → va_E) (R V : Nat → Int32), u = va_pl L F ∧ mRep k L F a tw n cn A1 A2 A3 A4 A5 A6 A7 A8 R V ∧ rqI A9 R i 25 (sIi J)) (pB D (va_pl L f) s.heap.size) (va_A (va_pl L f) s.heap.size)) ([.ref (a 0), .int (zI ((i : Int)))] : List Value).toArray s 0 0 (va_A (va_pl L f) s.heap.size) := ⟨_, rfl⟩
  rw [← hQ]
  refine zr_const hx hb dX10_leaveInner_0 ?_
  refine lv_istore_n (lv' := [(2, .int (zI (0))), (0, .ref (a 0)), (1, .int (zI ((i : Int))))]) hx hb dX10_leaveInner_1 rfl hl (by decide) rfl (fun ls hl => ?_)
  have cut_2 : ∀ (n9 : Nat) (x : Nat) (z2 : Int) (F2 : Nat → va_E) (V : Nat → Int32), (mRep k L F2 a tw n cn A1 A2 A3 A4 A5 A6 A7 A8 A9 V) → (x ≤ 25) → (z2 = x) → (∀ q, q < x → V q = zI 0) → 25 - z2 < (n9 : Int) → ∀ (H : Heap) (locs : List Loc), va_P D vwCl (va_pl L F2) H → va_D A (va_pl L F2) → va_S A s.heap H locs → ∀ (ls : Array Slot), lv_has ls 5 [(0, .ref (a 0)), (1, .int (zI ((i : Int)))), (2, .int (zI (z2)))] → W p l e (headSpec wsX10_leaveInner ({ frames := 2, cells := 0, slots := 0, locals := 47 } : Room)).room s m ([.ref (a 0), .int (zI ((i : Int)))] : List Value).toArray below meth c H locs 0 0 Q (F0 m 2 ls []) := by
    intro n9
    induction n9 with
    | zero =>
      intro x z2 F2 V hF2 hk hz2 hV hfu
      exact absurd hfu (by omega)
    | succ n9 ih_2 =>
      intro x z2 F2 V hF2 hk hz2 hV hfu H locs hP hD hS ls hl
      refine lv_iload_n hx hb dX10_leaveInner_2 rfl (lv_at hl 2 rfl) ?_
      refine zr_bipush hx hb dX10_leaveInner_3 (by decide) ?_
      refine zr_icmp_ge (tgt := 21) hx hb dX10_leaveInner_5 (by decide) (by omega) (by omega) (fun c1 => ?_) (fun c1 => ?_)
      · refine zr_const hx hb dX10_leaveInner_21 ?_
        refine lv_istore_n (lv' := [(2, .int (zI (0))), (0, .ref (a 0)), (1, .int (zI ((i : Int))))]) hx hb dX10_leaveInner_22 rfl hl (by decide) rfl (fun ls hl => ?_)
        have cut_23 : ∀ (n9 : Nat) (y : Nat) (z2b : Int) (F23 : Nat → va_E) (W2 : Nat → Int32), (mRep k L F23 a tw n cn A1 A2 A3 A4 A5 A6 A7 A8 A9 W2) → (y ≤ 625) → (z2b = y) → (rqK W2 y (sIi J)) → 625 - z2b < (n9 : Int) → ∀ (H : Heap) (locs : List Loc), va_P D vwCl (va_pl L F23) H → va_D A (va_pl L F23) → va_S A s.heap H locs → ∀ (ls : Array Slot), lv_has ls 5 [(0, .ref (a 0)), (1, .int (zI ((i : Int)))), (2, .int (zI (z2b)))] → W p l e (headSpec wsX10_leaveInner ({ frames := 2, cells := 0, slots := 0, locals := 47 } : Room)).room s m ([.ref (a 0), .int (zI ((i : Int)))] : List Value).toArray below meth c H locs 0 0 Q (F0 m 23 ls []) := by
          intro n9
          induction n9 with
          | zero =>
            intro y z2b F23 W2 hF23 hk2 hz2b hW hfu
            exact absurd hfu (by omega)
          | succ n9 ih_23 =>
            intro y z2b F23 W2 hF23 hk2 hz2b hW hfu H locs hP hD hS ls hl
            refine lv_iload_n hx hb dX10_leaveInner_23 rfl (lv_at hl 2 rfl) ?_
            refine zr_sipush hx hb dX10_leaveInner_24 (by decide) ?_
            refine zr_icmp_ge (tgt := 83) hx hb dX10_leaveInner_27 (by decide) (by omega) (by omega) (fun c2 => ?_) (fun c2 => ?_)
            · refine zr_const hx hb dX10_leaveInner_83 ?_
              refine lv_istore_n (lv' := [(2, .int (zI (0))), (0, .ref (a 0)), (1, .int (zI ((i : Int))))]) hx hb dX10_leaveInner_84 rfl hl (by decide) rfl (fun ls hl => ?_)
              have cut_85 : ∀ (n9 : Nat) (x3 : Nat) (z2c : Int) (F85 : Nat → va_E) (R : Nat → Int32), (mRep k L F85 a tw n cn A1 A2 A3 A4 A5 A6 A7 A8 R W2) → (x3 ≤ 25) → (z2c = x3) → (rqI A9 R i x3 (sIi J)) → 25 - z2c < (n9 : Int) → ∀ (H : Heap) (locs : List Loc), va_P D vwCl (va_pl L F85) H → va_D A (va_pl L F85) → va_S A s.heap H locs → ∀ (ls : Array Slot), lv_has ls 5 [(0, .ref (a 0)), (1, .int (zI ((i : Int)))), (2, .int (zI (z2c)))] → W p l e (headSpec wsX10_leaveInner ({ frames := 2, cells := 0, slots := 0, locals := 47 } : Room)).room s m ([.ref (a 0), .int (zI ((i : Int)))] : List Value).toArray below meth c H locs 0 0 Q (F0 m 85 ls []) := by
                intro n9
                induction n9 with
                | zero =>
                  intro x3 z2c F85 R hF85 hk3 hz2c hR hfu
                  exact absurd hfu (by omega)
                | succ n9 ih_85 =>
                  intro x3 z2c F85 R hF85 hk3 hz2c hR hfu H locs hP hD hS ls hl
                  refine lv_iload_n hx hb dX10_leaveInner_85 rfl (lv_at hl 2 rfl) ?_
                  refine zr_bipush hx hb dX10_leaveInner_86 (by decide) ?_
                  refine zr_icmp_ge (tgt := 114) hx hb dX10_leaveInner_88 (by decide) (by omega) (by omega) (fun c3 => ?_) (fun c3 => ?_)
                  · rw [hQ]
                    exact pc_vret hx hb hrt hP (by rw [← hAd]; exact hD) (by rw [← hAd]; exact hS) (by obtain rfl : x3 = 25 := (by omega); exact ⟨_, _, _, rfl, hF85, hR⟩) dX10_leaveInner_114 hlocks
                  · refine lv_aload_n hx hb dX10_leaveInner_91 rfl (lv_at hl 0 rfl) ?_
                    refine pl_get (ci := 9) (v := .ref (a 9)) (C := RX10) (T := TX10) (N := 13) hx hb hts hi_X10 hown hK hP (hF85.2.2.2.2.2.2.2.2.2.2.2.1 0 (by decide)) hF85.1 rfl 11 (by decide) hw_0 (fun _ h9 => h9) rfl dX10_leaveInner_92 ?_
                    refine zr_bipush hx hb dX10_leaveInner_95 (by decide) ?_
                    refine lv_iload_n hx hb dX10_leaveInner_97 rfl (lv_at hl 1 rfl) ?_
                    refine zr_mul hx hb dX10_leaveInner_98 ?_
                    refine lv_iload_n hx hb dX10_leaveInner_99 rfl (lv_at hl 2 rfl) ?_
                    refine zr_add hx hb dX10_leaveInner_100 ?_
                    refine lv_aload_n hx hb dX10_leaveInner_101 rfl (lv_at hl 0 rfl) ?_
                    refine pl_get (ci := 9) (v := .ref (a 10)) (C := RX10) (T := TX10) (N := 13) hx hb hts hi_X10 hown hK hP (hF85.2.2.2.2.2.2.2.2.2.2.2.1 0 (by decide)) hF85.1 rfl 12 (by decide) hw_1 (fun _ h9 => h9) rfl dX10_leaveInner_102 ?_
                    refine lv_iload_n hx hb dX10_leaveInner_105 rfl (lv_at hl 2 rfl) ?_
                    refine pl_iald hx hb hK hP (hF85.2.2.2.2.2.2.2.2.2.2.2.1 10 (by decide)) 0 hF85.2.2.2.2.2.2.2.2.2.2.1 rfl (x3) (by omega) (by omega) (by decide) dX10_leaveInner_106 ?_
                    refine pl_iast (x := (W2 (x3))) hx hb hK hP hD hS (hF85.2.2.2.2.2.2.2.2.2.2.2.1 9 (by decide)) 0 hF85.2.2.2.2.2.2.2.2.2.1 rfl (25 * i + x3) (by omega) (by omega) (by decide) dX10_leaveInner_107 (fun H locs hP hD hS => ?_)
                    have hP : va_P D vwCl (va_pl L (va_up F85 (a 9) (.inl (k 0, 750, .inl (upd R (25 * i + x3) (W2 (x3))))))) H := hP
                    have hD : va_D A (va_pl L (va_up F85 (a 9) (.inl (k 0, 750, .inl (upd R (25 * i + x3) (W2 (x3))))))) := hD
                    refine zr_iinc (k := 2) (lv' := [(2, .int (zI (z2c + 1))), (0, .ref (a 0)), (1, .int (zI ((i : Int))))]) hx hb dX10_leaveInner_108 hl rfl (by decide) rfl (fun ls hl => ?_)
                    refine lv_goto (tgt := 85) hx hb dX10_leaveInner_111 (by decide) ?_
                    exact ih_85 (x3 + 1) (z2c + 1) (va_up F85 (a 9) (.inl (k 0, 750, .inl (upd R (25 * i + x3) (W2 (x3)))))) ((upd R (25 * i + x3) (W2 (x3)))) ((mRep.s9 hF85 _)) (by omega) (by omega) (rqI_s hR (by omega) (fun t ht => by obtain rfl : y = 625 := (by omega); exact rqK_e hW (sIi_g hJ) (by omega) ht)) (by omega) _ _ hP hD hS _ (lv_sub hl [1, 2, 0] rfl)
              exact cut_85 ((25 - (0) : Int).toNat + 1) (0) (0) (F23) (A9) (hF23) (by omega) (by omega) (rqI_0 _ _ _) (by omega) _ _ hP hD hS _ (lv_sub hl [1, 2, 0] rfl)
            · refine lv_iload_n hx hb dX10_leaveInner_30 rfl (lv_at hl 2 rfl) ?_
              refine zr_bipush hx hb dX10_leaveInner_31 (by decide) ?_
              refine zr_div hx hb (by omega) (by omega) dX10_leaveInner_33 ?_
              refine lv_istore_n (lv' := [(3, .int (zI (z2b / 25))), (0, .ref (a 0)), (1, .int (zI ((i : Int)))), (2, .int (zI (z2b)))]) hx hb dX10_leaveInner_34 rfl hl (by decide) rfl (fun ls hl => ?_)
              refine lv_iload_n hx hb dX10_leaveInner_35 rfl (lv_at hl 3 rfl) ?_
              refine zr_bipush hx hb dX10_leaveInner_36 (by decide) ?_
              refine zr_rem hx hb (by omega) (by omega) dX10_leaveInner_38 ?_
              refine lv_istore (lv' := [(4, .int (zI (z2b % 25))), (3, .int (zI (z2b / 25))), (0, .ref (a 0)), (1, .int (zI ((i : Int)))), (2, .int (zI (z2b)))]) hx hb dX10_leaveInner_39 hl (by decide) rfl (fun ls hl => ?_)
              refine lv_aload_n hx hb dX10_leaveInner_41 rfl (lv_at hl 2 rfl) ?_
              refine lv_iload_n hx hb dX10_leaveInner_42 rfl (lv_at hl 3 rfl) ?_
              refine lv_iload_n hx hb dX10_leaveInner_43 rfl (lv_at hl 1 rfl) ?_
              refine lv_iload hx hb dX10_leaveInner_44 (lv_at hl 0 rfl) ?_
              rw [show z2b / 25 = (((y / 25) : Nat) : Int) by omega]
              rw [show z2b % 25 = (((y % 25) : Nat) : Int) by omega]
              refine vp_callSi (va_Run.run (va_runV (As := [.int (zI ((i : Int))), .int (zI (((y / 25) : Int))), .int (zI (((y % 25) : Int)))]) (rest := []) ⟨hx, hb, hml, hown, hts⟩ (kX10_holds l D k L F23 a tw n cn A1 A2 A3 A4 A5 A6 A7 A8 A9 W2 hF23 (by omega) (by omega) (by omega) i ((y / 25)) ((y % 25)) (by omega) (by omega) (by omega)) (cwV 3 hts gX10_leaveInner_X10_holds rfl rfl rfl (by decide +kernel) ⟨Nat.le_of_ble_eq_true rfl, Nat.le_of_ble_eq_true rfl⟩) (rc_preV hC hP (pl_recv hK hP (hF23.2.2.2.2.2.2.2.2.2.2.2.1 0 (by decide)) hF23.1 (ci := 9) (q := (RX10, TX10, 13)) rfl)) rfl rfl hl.1 rfl (lv_room (Nat.le_of_ble_eq_true rfl)) dX10_leaveInner_46 ⟨Nat.zero_le _, Nat.zero_le _⟩)) (fun r4 hr4 => ?_)
              subst hr4
              refine zr_ifb_eq (tgt := 77) hx hb dX10_leaveInner_49 (by decide) (fun c5 => ?_) (fun c5 => ?_)
              · refine zr_iinc (k := 4) (lv' := [(2, .int (zI (z2b + 1))), (4, .int (zI (z2b % 25))), (3, .int (zI (z2b / 25))), (0, .ref (a 0)), (1, .int (zI ((i : Int))))]) hx hb dX10_leaveInner_77 hl rfl (by decide) rfl (fun ls hl => ?_)
                refine lv_goto (tgt := 23) hx hb dX10_leaveInner_80 (by decide) ?_
                exact ih_23 (y + 1) (z2b + 1) (F23) (W2) (hF23) (by omega) (by omega) (by first | (rw [show (z2b % 25).toNat = y % 25 by omega]; exact rqK_y hW (sIi_g hJ) (by omega) (hw_1y hQJ hJ (by omega) ((hQJ (y / 25) (by omega) (y % 25) (by omega)).mp (by assumption)) (by assumption))) | exact rqK_n hW (sIi_g hJ) (fun q8 => b_tf ((hQJ (y / 25) (by omega) (y % 25) (by omega)).mpr q8.1) (by assumption)) | exact rqK_n hW (sIi_g hJ) (hw_1n hQJ hJ (by omega) ((hQJ (y / 25) (by omega) (y % 25) (by omega)).mp (by assumption)) (by assumption))) (by omega) _ _ hP hD hS _ (lv_sub hl [3, 4, 0] rfl)
              · refine lv_aload_n hx hb dX10_leaveInner_52 rfl (lv_at hl 2 rfl) ?_
                refine lv_iload_n hx hb dX10_leaveInner_53 rfl (lv_at hl 3 rfl) ?_
                refine lv_iload_n hx hb dX10_leaveInner_54 rfl (lv_at hl 1 rfl) ?_
                refine lv_iload hx hb dX10_leaveInner_55 (lv_at hl 0 rfl) ?_
                refine zr_const hx hb dX10_leaveInner_57 ?_
                refine zr_top (y := bI true) (by decide) ?_
                have hlt9 : y / 25 < y % 25 := (hJ _ _ ((hQJ (y / 25) (by omega) (y % 25) (by omega)).mp (by assumption))).1
                rw [show z2b / 25 = (((y / 25) : Nat) : Int) by omega]
                rw [show z2b % 25 = (((y % 25) : Nat) : Int) by omega]
                refine vp_callSi (va_Run.run (va_runV (As := [.int (zI ((i : Int))), .int (zI (((y / 25) : Int))), .int (zI (((y % 25) : Int))), .int (bI (true))]) (rest := []) ⟨hx, hb, hml, hown, hts⟩ (kX10_hasWithin l D k L F23 a tw n cn A1 A2 A3 A4 A5 A6 A7 A8 A9 W2 hF23 (by omega) (by omega) (by omega) i ((y / 25)) ((y % 25)) true (by omega) (by omega) (by omega)) (cwV 4 hts gX10_leaveInner_X10_hasWithin rfl rfl rfl (by decide +kernel) ⟨Nat.le_of_ble_eq_true rfl, Nat.le_of_ble_eq_true rfl⟩) (rc_preV hC hP (pl_recv hK hP (hF23.2.2.2.2.2.2.2.2.2.2.2.1 0 (by decide)) hF23.1 (ci := 9) (q := (RX10, TX10, 13)) rfl)) rfl rfl hl.1 rfl (lv_room (Nat.le_of_ble_eq_true rfl)) dX10_leaveInner_58 ⟨Nat.zero_le _, Nat.zero_le _⟩)) (fun r6 hr6 => ?_)
                subst hr6
                refine zr_ifb_ne (tgt := 77) hx hb dX10_leaveInner_61 (by decide) (fun c7 => ?_) (fun c7 => ?_)
                · refine zr_iinc (k := 4) (lv' := [(2, .int (zI (z2b + 1))), (4, .int (zI (z2b % 25))), (3, .int (zI (z2b / 25))), (0, .ref (a 0)), (1, .int (zI ((i : Int))))]) hx hb dX10_leaveInner_77 hl rfl (by decide) rfl (fun ls hl => ?_)
                  refine lv_goto (tgt := 23) hx hb dX10_leaveInner_80 (by decide) ?_
                  exact ih_23 (y + 1) (z2b + 1) (F23) (W2) (hF23) (by omega) (by omega) (by first | (rw [show (z2b % 25).toNat = y % 25 by omega]; exact rqK_y hW (sIi_g hJ) (by omega) (hw_1y hQJ hJ (by omega) ((hQJ (y / 25) (by omega) (y % 25) (by omega)).mp (by assumption)) (by assumption))) | exact rqK_n hW (sIi_g hJ) (fun q8 => b_tf ((hQJ (y / 25) (by omega) (y % 25) (by omega)).mpr q8.1) (by assumption)) | exact rqK_n hW (sIi_g hJ) (hw_1n hQJ hJ (by omega) ((hQJ (y / 25) (by omega) (y % 25) (by omega)).mp (by assumption)) (by assumption))) (by omega) _ _ hP hD hS _ (lv_sub hl [3, 4, 0] rfl)
                · refine lv_aload_n hx hb dX10_leaveInner_64 rfl (lv_at hl 2 rfl) ?_
                  refine pl_get (ci := 9) (v := .ref (a 10)) (C := RX10) (T := TX10) (N := 13) hx hb hts hi_X10 hown hK hP (hF23.2.2.2.2.2.2.2.2.2.2.2.1 0 (by decide)) hF23.1 rfl 12 (by decide) hw_1 (fun _ h9 => h9) rfl dX10_leaveInner_65 ?_
                  refine lv_iload_n hx hb dX10_leaveInner_68 rfl (lv_at hl 1 rfl) ?_
                  refine lv_dup2_11 hx hb dX10_leaveInner_69 rfl rfl ?_
                  refine pl_iald hx hb hK hP (hF23.2.2.2.2.2.2.2.2.2.2.2.1 10 (by decide)) 0 hF23.2.2.2.2.2.2.2.2.2.2.1 rfl ((y / 25)) (by omega) (by omega) (by decide) dX10_leaveInner_70 ?_
                  refine zr_const hx hb dX10_leaveInner_71 ?_
                  refine lv_iload hx hb dX10_leaveInner_72 (lv_at hl 0 rfl) ?_
                  refine zr_shl1 hx hb (by omega) dX10_leaveInner_74 ?_
                  refine lv_ior hx hb dX10_leaveInner_75 ?_
                  refine pl_iast (x := ((W2 ((y / 25))) ||| (pw (z2b % 25).toNat))) hx hb hK hP hD hS (hF23.2.2.2.2.2.2.2.2.2.2.2.1 10 (by decide)) 0 hF23.2.2.2.2.2.2.2.2.2.2.1 rfl ((y / 25)) (by omega) (by omega) (by decide) dX10_leaveInner_76 (fun H locs hP hD hS => ?_)
                  have hP : va_P D vwCl (va_pl L (va_up F23 (a 10) (.inl (k 0, 25, .inl (upd W2 ((y / 25)) ((W2 ((y / 25))) ||| (pw (z2b % 25).toNat))))))) H := hP
                  have hD : va_D A (va_pl L (va_up F23 (a 10) (.inl (k 0, 25, .inl (upd W2 ((y / 25)) ((W2 ((y / 25))) ||| (pw (z2b % 25).toNat))))))) := hD
                  refine zr_iinc (k := 4) (lv' := [(2, .int (zI (z2b + 1))), (4, .int (zI (z2b % 25))), (3, .int (zI (z2b / 25))), (0, .ref (a 0)), (1, .int (zI ((i : Int))))]) hx hb dX10_leaveInner_77 hl rfl (by decide) rfl (fun ls hl => ?_)
                  refine lv_goto (tgt := 23) hx hb dX10_leaveInner_80 (by decide) ?_
                  exact ih_23 (y + 1) (z2b + 1) (va_up F23 (a 10) (.inl (k 0, 25, .inl (upd W2 ((y / 25)) ((W2 ((y / 25))) ||| (pw (z2b % 25).toNat)))))) ((upd W2 ((y / 25)) ((W2 ((y / 25))) ||| (pw (z2b % 25).toNat)))) ((mRep.s10 hF23 _)) (by omega) (by omega) (by first | (rw [show (z2b % 25).toNat = y % 25 by omega]; exact rqK_y hW (sIi_g hJ) (by omega) (hw_1y hQJ hJ (by omega) ((hQJ (y / 25) (by omega) (y % 25) (by omega)).mp (by assumption)) (by assumption))) | exact rqK_n hW (sIi_g hJ) (fun q8 => b_tf ((hQJ (y / 25) (by omega) (y % 25) (by omega)).mpr q8.1) (by assumption)) | exact rqK_n hW (sIi_g hJ) (hw_1n hQJ hJ (by omega) ((hQJ (y / 25) (by omega) (y % 25) (by omega)).mp (by assumption)) (by assumption))) (by omega) _ _ hP hD hS _ (lv_sub hl [3, 4, 0] rfl)
        exact cut_23 ((625 - (0) : Int).toNat + 1) (0) (0) (F2) (V) (hF2) (by omega) (by omega) (rqK_0 (fun q hq => hV q (by omega)) _) (by omega) _ _ hP hD hS _ (lv_sub hl [1, 2, 0] rfl)
      · refine lv_aload_n hx hb dX10_leaveInner_8 rfl (lv_at hl 0 rfl) ?_
        refine pl_get (ci := 9) (v := .ref (a 10)) (C := RX10) (T := TX10) (N := 13) hx hb hts hi_X10 hown hK hP (hF2.2.2.2.2.2.2.2.2.2.2.2.1 0 (by decide)) hF2.1 rfl 12 (by decide) hw_1 (fun _ h9 => h9) rfl dX10_leaveInner_9 ?_
        refine lv_iload_n hx hb dX10_leaveInner_12 rfl (lv_at hl 2 rfl) ?_
        refine zr_const hx hb dX10_leaveInner_13 ?_
        refine pl_iast (x := (zI (0))) hx hb hK hP hD hS (hF2.2.2.2.2.2.2.2.2.2.2.2.1 10 (by decide)) 0 hF2.2.2.2.2.2.2.2.2.2.2.1 rfl (x) (by omega) (by omega) (by decide) dX10_leaveInner_14 (fun H locs hP hD hS => ?_)
        have hP : va_P D vwCl (va_pl L (va_up F2 (a 10) (.inl (k 0, 25, .inl (upd V (x) (zI (0))))))) H := hP
        have hD : va_D A (va_pl L (va_up F2 (a 10) (.inl (k 0, 25, .inl (upd V (x) (zI (0))))))) := hD
        refine zr_iinc (k := 2) (lv' := [(2, .int (zI (z2 + 1))), (0, .ref (a 0)), (1, .int (zI ((i : Int))))]) hx hb dX10_leaveInner_15 hl rfl (by decide) rfl (fun ls hl => ?_)
        refine lv_goto (tgt := 2) hx hb dX10_leaveInner_18 (by decide) ?_
        exact ih_2 (x + 1) (z2 + 1) (va_up F2 (a 10) (.inl (k 0, 25, .inl (upd V (x) (zI (0)))))) ((upd V (x) (zI (0)))) ((mRep.s10 hF2 _)) (by omega) (by omega) (updz hV rfl) (by omega) _ _ hP hD hS _ (lv_sub hl [1, 2, 0] rfl)
  exact cut_2 ((25 - (0) : Int).toNat + 1) (0) (0) (f) (A10) (hM) (by omega) (by omega) (fun q hq => absurd hq (Nat.not_lt_zero q)) (by omega) _ _ hP hD hS _ (lv_sub hl [1, 2, 0] rfl)
