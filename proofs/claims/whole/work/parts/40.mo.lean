theorem mSync.node {S : SA} {A1 A2 A3 A4 A5 A6 A7 : Nat → Int32} (hY : mSync S A1 A2 A3 A4 A5 A6 A7) (w o1 o2 : Nat) (gp dp : Int) {v3 v4 v5 v6 v7 : Int32} (h3 : v3 = zI (w : Int)) (h4 : v4 = zI (o1 : Int)) (h5 : w ≠ 11 → w ≠ 12 → v5 = zI (o2 : Int)) (h6 : v6 = zI gp) (h7 : v7 = zI dp) : mSync (addS S w o1 o2 gp dp) A1 A2 (upd A3 (sC S) v3) (upd A4 (sC S) v4) (upd A5 (sC S) v5) (upd A6 (sC S) v6) (upd A7 (sC S) v7) := by
  refine ⟨hY.1, hY.2.1, fun i hi => ?_⟩
  have hi : i < sC S + 1 := hi
  by_cases c : i = sC S
  · subst c
    unfold comp
    rw [adS_w, adS_o, adS_p, adS_g, adS_d, pk_us, pk_us, pk_us, pk_us, pk_us]
    exact ⟨h3, h4, fun q => h5 q.1 q.2, h6, h7⟩
  · unfold comp
    rw [adN_w c, adN_o c, adN_p c, adN_g c, adN_d c, pk_un c, pk_un c, pk_un c, pk_un c, pk_un c]
    exact hY.2.2 i (by omega)

set_option maxHeartbeats 4000000 in
set_option maxRecDepth 100000 in
theorem kX10_make (l : Launch) (D : va_G) (k : Nat → ClassId) (L : List Nat) (f : Nat → va_E) (S : SA) (hO : aOK S) (a : Nat → Nat) (tw : Int) (A1 A2 A3 A4 A5 A6 A7 A8 A9 A10 : Nat → Int32) (hM : mRep k L f a tw ((sN S)) ((sC S : Int)) A1 A2 A3 A4 A5 A6 A7 A8 A9 A10) (hMT : 0 ≤ tw ∧ tw ≤ 3) (hY : mSync S A1 A2 A3 A4 A5 A6 A7) (v1 v2 v3 v4 v5 : Int) (hc : sC S < 30) (n0 sz : Nat) : Met l yX10_make wsX10_make ({ frames := 0, cells := 0, slots := 0, locals := 0 } : Room) (va_Pc [.ref (a 0), .int (zI (v1)), .int (zI (v2)), .int (zI (v3)), .int (zI (v4)), .int (zI (v5))] (pPre D (tyL k) n0 (va_pl L f) sz)) (va_Qi (fun r9 u => r9 = zI (sC S : Int) ∧ ∃ F : Nat → va_E, u = va_pl L F ∧ mRep k L F a tw ((sN S)) (((sC S : Int) + 1)) A1 A2 ((upd A3 (sC S) (zI v1))) ((upd A4 (sC S) (zI v2))) ((upd A5 (sC S) (zI v3))) ((upd A6 (sC S) (zI v4))) ((upd A7 (sC S) (zI v5))) A8 A9 A10) (pB D (va_pl L f) sz) (va_A (va_pl L f) sz)) 0 0 (va_A (va_pl L f) sz) := by
  refine Met.ofW (cc := cX10_make) (maxL := 6) (ret := (some .int)) (by decide) rfl ?_
  intro p e s m args below meth c s₁ B hml hv
  obtain ⟨rfl, hsz, hn9, hP, hC, hD0⟩ := hv
  have hK := hC.1
  have hNW := hC.2.1
  have hx := B.exec
  have hb := B.bytes
  have hrt := B.returns
  have hts := atoms_spec (ws := wsX10_make) B.pre
  have hown : s.vm.findClass RX10 = some m.cls := findClass_of_methodNamed B.named
  have hlocks := B.notSynchronized
  subst hsz
  obtain ⟨A, hAd⟩ : ∃ A, A = va_A (va_pl L f) s.heap.size := ⟨_, rfl⟩
  have hD := hD0.self (sz := s.heap.size)
  rw [← hAd] at hD
  have hA : ∀ q : Nat, s.heap.size ≤ q → A q := fun q h => by rw [hAd]; exact Or.inr h
  have hAn : ∀ q : Nat, A q → n0 ≤ q := fun q h => by
    rw [hAd] at h
    rcases h with ⟨k9, e9, hk9⟩ | h
    · exact hD0.2 k9 _ hk9
    · exact Nat.le_trans hn9 h
  have hS : va_S A s.heap s.heap [] := va_S.rf
  have hi_X10 : ∀ w ∈ u_ws RX10 TX10 13, w ∈ wsX10_make := by decide +kernel
  have hw_0 := hts (.fieldLink RX10 16 "RegionryModel" "whats" "[I") (by decide +kernel)
  have hw_1 := hts (.fieldLink RX10 49 "RegionryModel" "nodes" "I") (by decide +kernel)
  have hw_2 := hts (.fieldLink RX10 19 "RegionryModel" "ones" "[I") (by decide +kernel)
  have hw_3 := hts (.fieldLink RX10 22 "RegionryModel" "others" "[I") (by decide +kernel)
  have hw_4 := hts (.fieldLink RX10 25 "RegionryModel" "gaps" "[I") (by decide +kernel)
  have hw_5 := hts (.fieldLink RX10 28 "RegionryModel" "depths" "[I") (by decide +kernel)
  have hl := lv_entry ([.ref (a 0), .int (zI (v1)), .int (zI (v2)), .int (zI (v3)), .int (zI (v4)), .int (zI (v5))]) (n := 6) (Nat.le_of_ble_eq_true rfl)
  rw [lg_entry_eq]
  generalize (lg_sl ([.ref (a 0), .int (zI (v1)), .int (zI (v2)), .int (zI (v3)), .int (zI (v4)), .int (zI (v5))]) ++ List.replicate (6 - (lg_sl ([.ref (a 0), .int (zI (v1)), .int (zI (v2)), .int (zI (v3)), .int (zI (v4)), .int (zI (v5))])).length) Slot.unset).toArray = ls at hl ⊢
  have hl : lv_has ls 6 [(0, .ref (a 0)), (1, .int (zI (v1))), (2, .int (zI (v2))), (3, .int (zI (v3))), (4, .int (zI (v4))), (5, .int (zI (v5)))] := hl
  obtain ⟨Q, hQ⟩ : ∃ Q, Q = MQ below (va_Qi (fun r9 u => r9 = zI (sC S : Int) ∧ ∃ F : Nat → va_E, u = va_pl L F ∧ mRep k L F a tw ((sN S)) (((sC S : Int) + 1)) A1 A2 ((upd A3 (sC S) (zI v1))) ((upd A4 (sC S) (zI v2))) ((upd A5 (sC S) (zI v3))) ((upd A6 (sC S) (zI v4))) ((upd A7 (sC S) (zI v5))) A8 A9 A10) (pB D (va_pl L f) s.heap.size) (va_A (va_pl L f) s.heap.size)) ([.ref (a 0), .int (zI (v1)), .int (zI (v2)), .int (zI (v3)), .int (zI (v4)), .int (zI (v5))] : List Value).toArray s 0 0 (va_A (va_pl L f) s.heap.size) := ⟨_, rfl⟩
  rw [← hQ]
  have hMN := hO.1
  have hMC : 0 ≤ (sC S : Int) ∧ (sC S : Int) ≤ 30 := by have h8 := hO.2.2.2.1; omega
  refine lv_aload_n hx hb dX10_make_0 rfl (lv_at hl 0 rfl) ?_
  refine pl_get (ci := 9) (v := .ref (a 3)) (C := RX10) (T := TX10) (N := 13) hx hb hts hi_X10 hown hK hP (hM.2.2.2.2.2.2.2.2.2.2.2.1 0 (by decide)) hM.1 rfl 5 (by decide) hw_0 (fun _ h9 => h9) rfl dX10_make_1 ?_
  refine lv_aload_n hx hb dX10_make_4 rfl (lv_at hl 0 rfl) ?_
  refine pl_get (ci := 9) (v := .int (zI ((sC S : Int)))) (C := RX10) (T := TX10) (N := 13) hx hb hts hi_X10 hown hK hP (hM.2.2.2.2.2.2.2.2.2.2.2.1 0 (by decide)) hM.1 rfl 4 (by decide) hw_1 (fun _ h9 => h9) rfl dX10_make_5 ?_
  refine lv_iload_n hx hb dX10_make_8 rfl (lv_at hl 1 rfl) ?_
  refine pl_iast (x := (zI (v1))) hx hb hK hP hD hS (hM.2.2.2.2.2.2.2.2.2.2.2.1 3 (by decide)) 0 hM.2.2.2.1 rfl ((sC S)) (by omega) (by omega) (by decide) dX10_make_9 (fun H locs hP hD hS => ?_)
  have hP : va_P D vwCl (va_pl L (va_up f (a 3) (.inl (k 0, 30, .inl (upd A3 ((sC S)) (zI (v1))))))) H := hP
  have hD : va_D A (va_pl L (va_up f (a 3) (.inl (k 0, 30, .inl (upd A3 ((sC S)) (zI (v1))))))) := hD
  refine lv_aload_n hx hb dX10_make_10 rfl (lv_at hl 0 rfl) ?_
  refine pl_get (ci := 9) (v := .ref (a 4)) (C := RX10) (T := TX10) (N := 13) hx hb hts hi_X10 hown hK hP (hM.2.2.2.2.2.2.2.2.2.2.2.1 0 (by decide)) ((va_up_ne _ _ (fun e9 => absurd (hM.2.2.2.2.2.2.2.2.2.2.2.2 0 3 (by decide) (by decide) e9) (by decide))).trans hM.1) rfl 6 (by decide) hw_2 (fun _ h9 => h9) rfl dX10_make_11 ?_
  refine lv_aload_n hx hb dX10_make_14 rfl (lv_at hl 0 rfl) ?_
  refine pl_get (ci := 9) (v := .int (zI ((sC S : Int)))) (C := RX10) (T := TX10) (N := 13) hx hb hts hi_X10 hown hK hP (hM.2.2.2.2.2.2.2.2.2.2.2.1 0 (by decide)) ((va_up_ne _ _ (fun e9 => absurd (hM.2.2.2.2.2.2.2.2.2.2.2.2 0 3 (by decide) (by decide) e9) (by decide))).trans hM.1) rfl 4 (by decide) hw_1 (fun _ h9 => h9) rfl dX10_make_15 ?_
  refine lv_iload_n hx hb dX10_make_18 rfl (lv_at hl 2 rfl) ?_
  refine pl_iast (x := (zI (v2))) hx hb hK hP hD hS (hM.2.2.2.2.2.2.2.2.2.2.2.1 4 (by decide)) 0 ((va_up_ne _ _ (fun e9 => absurd (hM.2.2.2.2.2.2.2.2.2.2.2.2 4 3 (by decide) (by decide) e9) (by decide))).trans hM.2.2.2.2.1) rfl ((sC S)) (by omega) (by omega) (by decide) dX10_make_19 (fun H locs hP hD hS => ?_)
  have hP : va_P D vwCl (va_pl L (va_up (va_up f (a 3) (.inl (k 0, 30, .inl (upd A3 ((sC S)) (zI (v1)))))) (a 4) (.inl (k 0, 30, .inl (upd A4 ((sC S)) (zI (v2))))))) H := hP
  have hD : va_D A (va_pl L (va_up (va_up f (a 3) (.inl (k 0, 30, .inl (upd A3 ((sC S)) (zI (v1)))))) (a 4) (.inl (k 0, 30, .inl (upd A4 ((sC S)) (zI (v2))))))) := hD
  refine lv_aload_n hx hb dX10_make_20 rfl (lv_at hl 0 rfl) ?_
  refine pl_get (ci := 9) (v := .ref (a 5)) (C := RX10) (T := TX10) (N := 13) hx hb hts hi_X10 hown hK hP (hM.2.2.2.2.2.2.2.2.2.2.2.1 0 (by decide)) ((va_up_ne _ _ (fun e9 => absurd (hM.2.2.2.2.2.2.2.2.2.2.2.2 0 4 (by decide) (by decide) e9) (by decide))).trans ((va_up_ne _ _ (fun e9 => absurd (hM.2.2.2.2.2.2.2.2.2.2.2.2 0 3 (by decide) (by decide) e9) (by decide))).trans hM.1)) rfl 7 (by decide) hw_3 (fun _ h9 => h9) rfl dX10_make_21 ?_
  refine lv_aload_n hx hb dX10_make_24 rfl (lv_at hl 0 rfl) ?_
  refine pl_get (ci := 9) (v := .int (zI ((sC S : Int)))) (C := RX10) (T := TX10) (N := 13) hx hb hts hi_X10 hown hK hP (hM.2.2.2.2.2.2.2.2.2.2.2.1 0 (by decide)) ((va_up_ne _ _ (fun e9 => absurd (hM.2.2.2.2.2.2.2.2.2.2.2.2 0 4 (by decide) (by decide) e9) (by decide))).trans ((va_up_ne _ _ (fun e9 => absurd (hM.2.2.2.2.2.2.2.2.2.2.2.2 0 3 (by decide) (by decide) e9) (by decide))).trans hM.1)) rfl 4 (by decide) hw_1 (fun _ h9 => h9) rfl dX10_make_25 ?_
  refine lv_iload_n hx hb dX10_make_28 rfl (lv_at hl 3 rfl) ?_
  refine pl_iast (x := (zI (v3))) hx hb hK hP hD hS (hM.2.2.2.2.2.2.2.2.2.2.2.1 5 (by decide)) 0 ((va_up_ne _ _ (fun e9 => absurd (hM.2.2.2.2.2.2.2.2.2.2.2.2 5 4 (by decide) (by decide) e9) (by decide))).trans ((va_up_ne _ _ (fun e9 => absurd (hM.2.2.2.2.2.2.2.2.2.2.2.2 5 3 (by decide) (by decide) e9) (by decide))).trans hM.2.2.2.2.2.1)) rfl ((sC S)) (by omega) (by omega) (by decide) dX10_make_29 (fun H locs hP hD hS => ?_)
  have hP : va_P D vwCl (va_pl L (va_up (va_up (va_up f (a 3) (.inl (k 0, 30, .inl (upd A3 ((sC S)) (zI (v1)))))) (a 4) (.inl (k 0, 30, .inl (upd A4 ((sC S)) (zI (v2)))))) (a 5) (.inl (k 0, 30, .inl (upd A5 ((sC S)) (zI (v3))))))) H := hP
  have hD : va_D A (va_pl L (va_up (va_up (va_up f (a 3) (.inl (k 0, 30, .inl (upd A3 ((sC S)) (zI (v1)))))) (a 4) (.inl (k 0, 30, .inl (upd A4 ((sC S)) (zI (v2)))))) (a 5) (.inl (k 0, 30, .inl (upd A5 ((sC S)) (zI (v3))))))) := hD
  refine lv_aload_n hx hb dX10_make_30 rfl (lv_at hl 0 rfl) ?_
  refine pl_get (ci := 9) (v := .ref (a 6)) (C := RX10) (T := TX10) (N := 13) hx hb hts hi_X10 hown hK hP (hM.2.2.2.2.2.2.2.2.2.2.2.1 0 (by decide)) ((va_up_ne _ _ (fun e9 => absurd (hM.2.2.2.2.2.2.2.2.2.2.2.2 0 5 (by decide) (by decide) e9) (by decide))).trans ((va_up_ne _ _ (fun e9 => absurd (hM.2.2.2.2.2.2.2.2.2.2.2.2 0 4 (by decide) (by decide) e9) (by decide))).trans ((va_up_ne _ _ (fun e9 => absurd (hM.2.2.2.2.2.2.2.2.2.2.2.2 0 3 (by decide) (by decide) e9) (by decide))).trans hM.1))) rfl 8 (by decide) hw_4 (fun _ h9 => h9) rfl dX10_make_31 ?_
  refine lv_aload_n hx hb dX10_make_34 rfl (lv_at hl 0 rfl) ?_
  refine pl_get (ci := 9) (v := .int (zI ((sC S : Int)))) (C := RX10) (T := TX10) (N := 13) hx hb hts hi_X10 hown hK hP (hM.2.2.2.2.2.2.2.2.2.2.2.1 0 (by decide)) ((va_up_ne _ _ (fun e9 => absurd (hM.2.2.2.2.2.2.2.2.2.2.2.2 0 5 (by decide) (by decide) e9) (by decide))).trans ((va_up_ne _ _ (fun e9 => absurd (hM.2.2.2.2.2.2.2.2.2.2.2.2 0 4 (by decide) (by decide) e9) (by decide))).trans ((va_up_ne _ _ (fun e9 => absurd (hM.2.2.2.2.2.2.2.2.2.2.2.2 0 3 (by decide) (by decide) e9) (by decide))).trans hM.1))) rfl 4 (by decide) hw_1 (fun _ h9 => h9) rfl dX10_make_35 ?_
  refine lv_iload hx hb dX10_make_38 (lv_at hl 4 rfl) ?_
  refine pl_iast (x := (zI (v4))) hx hb hK hP hD hS (hM.2.2.2.2.2.2.2.2.2.2.2.1 6 (by decide)) 0 ((va_up_ne _ _ (fun e9 => absurd (hM.2.2.2.2.2.2.2.2.2.2.2.2 6 5 (by decide) (by decide) e9) (by decide))).trans ((va_up_ne _ _ (fun e9 => absurd (hM.2.2.2.2.2.2.2.2.2.2.2.2 6 4 (by decide) (by decide) e9) (by decide))).trans ((va_up_ne _ _ (fun e9 => absurd (hM.2.2.2.2.2.2.2.2.2.2.2.2 6 3 (by decide) (by decide) e9) (by decide))).trans hM.2.2.2.2.2.2.1))) rfl ((sC S)) (by omega) (by omega) (by decide) dX10_make_40 (fun H locs hP hD hS => ?_)
  have hP : va_P D vwCl (va_pl L (va_up (va_up (va_up (va_up f (a 3) (.inl (k 0, 30, .inl (upd A3 ((sC S)) (zI (v1)))))) (a 4) (.inl (k 0, 30, .inl (upd A4 ((sC S)) (zI (v2)))))) (a 5) (.inl (k 0, 30, .inl (upd A5 ((sC S)) (zI (v3)))))) (a 6) (.inl (k 0, 30, .inl (upd A6 ((sC S)) (zI (v4))))))) H := hP
  have hD : va_D A (va_pl L (va_up (va_up (va_up (va_up f (a 3) (.inl (k 0, 30, .inl (upd A3 ((sC S)) (zI (v1)))))) (a 4) (.inl (k 0, 30, .inl (upd A4 ((sC S)) (zI (v2)))))) (a 5) (.inl (k 0, 30, .inl (upd A5 ((sC S)) (zI (v3)))))) (a 6) (.inl (k 0, 30, .inl (upd A6 ((sC S)) (zI (v4))))))) := hD
  refine lv_aload_n hx hb dX10_make_41 rfl (lv_at hl 0 rfl) ?_
  refine pl_get (ci := 9) (v := .ref (a 7)) (C := RX10) (T := TX10) (N := 13) hx hb hts hi_X10 hown hK hP (hM.2.2.2.2.2.2.2.2.2.2.2.1 0 (by decide)) ((va_up_ne _ _ (fun e9 => absurd (hM.2.2.2.2.2.2.2.2.2.2.2.2 0 6 (by decide) (by decide) e9) (by decide))).trans ((va_up_ne _ _ (fun e9 => absurd (hM.2.2.2.2.2.2.2.2.2.2.2.2 0 5 (by decide) (by decide) e9) (by decide))).trans ((va_up_ne _ _ (fun e9 => absurd (hM.2.2.2.2.2.2.2.2.2.2.2.2 0 4 (by decide) (by decide) e9) (by decide))).trans ((va_up_ne _ _ (fun e9 => absurd (hM.2.2.2.2.2.2.2.2.2.2.2.2 0 3 (by decide) (by decide) e9) (by decide))).trans hM.1)))) rfl 9 (by decide) hw_5 (fun _ h9 => h9) rfl dX10_make_42 ?_
  refine lv_aload_n hx hb dX10_make_45 rfl (lv_at hl 0 rfl) ?_
  refine pl_get (ci := 9) (v := .int (zI ((sC S : Int)))) (C := RX10) (T := TX10) (N := 13) hx hb hts hi_X10 hown hK hP (hM.2.2.2.2.2.2.2.2.2.2.2.1 0 (by decide)) ((va_up_ne _ _ (fun e9 => absurd (hM.2.2.2.2.2.2.2.2.2.2.2.2 0 6 (by decide) (by decide) e9) (by decide))).trans ((va_up_ne _ _ (fun e9 => absurd (hM.2.2.2.2.2.2.2.2.2.2.2.2 0 5 (by decide) (by decide) e9) (by decide))).trans ((va_up_ne _ _ (fun e9 => absurd (hM.2.2.2.2.2.2.2.2.2.2.2.2 0 4 (by decide) (by decide) e9) (by decide))).trans ((va_up_ne _ _ (fun e9 => absurd (hM.2.2.2.2.2.2.2.2.2.2.2.2 0 3 (by decide) (by decide) e9) (by decide))).trans hM.1)))) rfl 4 (by decide) hw_1 (fun _ h9 => h9) rfl dX10_make_46 ?_
  refine lv_iload hx hb dX10_make_49 (lv_at hl 5 rfl) ?_
  refine pl_iast (x := (zI (v5))) hx hb hK hP hD hS (hM.2.2.2.2.2.2.2.2.2.2.2.1 7 (by decide)) 0 ((va_up_ne _ _ (fun e9 => absurd (hM.2.2.2.2.2.2.2.2.2.2.2.2 7 6 (by decide) (by decide) e9) (by decide))).trans ((va_up_ne _ _ (fun e9 => absurd (hM.2.2.2.2.2.2.2.2.2.2.2.2 7 5 (by decide) (by decide) e9) (by decide))).trans ((va_up_ne _ _ (fun e9 => absurd (hM.2.2.2.2.2.2.2.2.2.2.2.2 7 4 (by decide) (by decide) e9) (by decide))).trans ((va_up_ne _ _ (fun e9 => absurd (hM.2.2.2.2.2.2.2.2.2.2.2.2 7 3 (by decide) (by decide) e9) (by decide))).trans hM.2.2.2.2.2.2.2.1)))) rfl ((sC S)) (by omega) (by omega) (by decide) dX10_make_51 (fun H locs hP hD hS => ?_)
  have hP : va_P D vwCl (va_pl L (va_up (va_up (va_up (va_up (va_up f (a 3) (.inl (k 0, 30, .inl (upd A3 ((sC S)) (zI (v1)))))) (a 4) (.inl (k 0, 30, .inl (upd A4 ((sC S)) (zI (v2)))))) (a 5) (.inl (k 0, 30, .inl (upd A5 ((sC S)) (zI (v3)))))) (a 6) (.inl (k 0, 30, .inl (upd A6 ((sC S)) (zI (v4)))))) (a 7) (.inl (k 0, 30, .inl (upd A7 ((sC S)) (zI (v5))))))) H := hP
  have hD : va_D A (va_pl L (va_up (va_up (va_up (va_up (va_up f (a 3) (.inl (k 0, 30, .inl (upd A3 ((sC S)) (zI (v1)))))) (a 4) (.inl (k 0, 30, .inl (upd A4 ((sC S)) (zI (v2)))))) (a 5) (.inl (k 0, 30, .inl (upd A5 ((sC S)) (zI (v3)))))) (a 6) (.inl (k 0, 30, .inl (upd A6 ((sC S)) (zI (v4)))))) (a 7) (.inl (k 0, 30, .inl (upd A7 ((sC S)) (zI (v5))))))) := hD
  refine lv_aload_n hx hb dX10_make_52 rfl (lv_at hl 0 rfl) ?_
  refine lv_dup hx hb dX10_make_53 rfl ?_
  refine pl_get (ci := 9) (v := .int (zI ((sC S : Int)))) (C := RX10) (T := TX10) (N := 13) hx hb hts hi_X10 hown hK hP (hM.2.2.2.2.2.2.2.2.2.2.2.1 0 (by decide)) ((va_up_ne _ _ (fun e9 => absurd (hM.2.2.2.2.2.2.2.2.2.2.2.2 0 7 (by decide) (by decide) e9) (by decide))).trans ((va_up_ne _ _ (fun e9 => absurd (hM.2.2.2.2.2.2.2.2.2.2.2.2 0 6 (by decide) (by decide) e9) (by decide))).trans ((va_up_ne _ _ (fun e9 => absurd (hM.2.2.2.2.2.2.2.2.2.2.2.2 0 5 (by decide) (by decide) e9) (by decide))).trans ((va_up_ne _ _ (fun e9 => absurd (hM.2.2.2.2.2.2.2.2.2.2.2.2 0 4 (by decide) (by decide) e9) (by decide))).trans ((va_up_ne _ _ (fun e9 => absurd (hM.2.2.2.2.2.2.2.2.2.2.2.2 0 3 (by decide) (by decide) e9) (by decide))).trans hM.1))))) rfl 4 (by decide) hw_1 (fun _ h9 => h9) rfl dX10_make_54 ?_
  refine zr_const hx hb dX10_make_57 ?_
  refine zr_add hx hb dX10_make_58 ?_
  refine pl_put (ci := 9) (v := .int (zI (((sC S : Int)) + 1))) (ty := .int) (C := RX10) (T := TX10) (N := 13) hx hb hts hi_X10 tyX10 tyX10_ok nmX10 hown hK hP hD hS (hM.2.2.2.2.2.2.2.2.2.2.2.1 0 (by decide)) ((va_up_ne _ _ (fun e9 => absurd (hM.2.2.2.2.2.2.2.2.2.2.2.2 0 7 (by decide) (by decide) e9) (by decide))).trans ((va_up_ne _ _ (fun e9 => absurd (hM.2.2.2.2.2.2.2.2.2.2.2.2 0 6 (by decide) (by decide) e9) (by decide))).trans ((va_up_ne _ _ (fun e9 => absurd (hM.2.2.2.2.2.2.2.2.2.2.2.2 0 5 (by decide) (by decide) e9) (by decide))).trans ((va_up_ne _ _ (fun e9 => absurd (hM.2.2.2.2.2.2.2.2.2.2.2.2 0 4 (by decide) (by decide) e9) (by decide))).trans ((va_up_ne _ _ (fun e9 => absurd (hM.2.2.2.2.2.2.2.2.2.2.2.2 0 3 (by decide) (by decide) e9) (by decide))).trans hM.1))))) rfl 4 (by decide) hw_1 (fun _ h9 => h9) rfl (by decide +kernel) rfl rfl (Nat.le_of_ble_eq_true rfl) dX10_make_59 (fun H locs hP hD hS => ?_)
  have hP : va_P D vwCl (va_pl L (va_up (va_up (va_up (va_up (va_up (va_up f (a 3) (.inl (k 0, 30, .inl (upd A3 ((sC S)) (zI (v1)))))) (a 4) (.inl (k 0, 30, .inl (upd A4 ((sC S)) (zI (v2)))))) (a 5) (.inl (k 0, 30, .inl (upd A5 ((sC S)) (zI (v3)))))) (a 6) (.inl (k 0, 30, .inl (upd A6 ((sC S)) (zI (v4)))))) (a 7) (.inl (k 0, 30, .inl (upd A7 ((sC S)) (zI (v5)))))) (a 0) (.inr (9, [.int (zI (tw)), .ref (a 1), .int (zI ((sN S))), .ref (a 2), .int (zI (((sC S : Int)) + 1)), .ref (a 3), .ref (a 4), .ref (a 5), .ref (a 6), .ref (a 7), .ref (a 8), .ref (a 9), .ref (a 10)])))) H := hP
  have hD : va_D A (va_pl L (va_up (va_up (va_up (va_up (va_up (va_up f (a 3) (.inl (k 0, 30, .inl (upd A3 ((sC S)) (zI (v1)))))) (a 4) (.inl (k 0, 30, .inl (upd A4 ((sC S)) (zI (v2)))))) (a 5) (.inl (k 0, 30, .inl (upd A5 ((sC S)) (zI (v3)))))) (a 6) (.inl (k 0, 30, .inl (upd A6 ((sC S)) (zI (v4)))))) (a 7) (.inl (k 0, 30, .inl (upd A7 ((sC S)) (zI (v5)))))) (a 0) (.inr (9, [.int (zI (tw)), .ref (a 1), .int (zI ((sN S))), .ref (a 2), .int (zI (((sC S : Int)) + 1)), .ref (a 3), .ref (a 4), .ref (a 5), .ref (a 6), .ref (a 7), .ref (a 8), .ref (a 9), .ref (a 10)])))) := hD
  refine lv_aload_n hx hb dX10_make_62 rfl (lv_at hl 0 rfl) ?_
  refine pl_get (ci := 9) (v := .int (zI (((sC S : Int)) + 1))) (C := RX10) (T := TX10) (N := 13) hx hb hts hi_X10 hown hK hP (hM.2.2.2.2.2.2.2.2.2.2.2.1 0 (by decide)) (va_up_self _ _ _) rfl 4 (by decide) hw_1 (fun _ h9 => h9) rfl dX10_make_63 ?_
  refine zr_const hx hb dX10_make_66 ?_
  refine zr_sub hx hb dX10_make_67 ?_
  rw [hQ]
  exact pc_iret hx hb hrt hP (by rw [← hAd]; exact hD) (by rw [← hAd]; exact hS) (⟨by rw [show ((sC S : Int) + 1) - 1 = (sC S : Int) by omega], _, rfl, (mRep.o (mRep.s7 (mRep.s6 (mRep.s5 (mRep.s4 (mRep.s3 hM _) _) _) _) _) _ _ _)⟩) dX10_make_68 hlocks

set_option maxHeartbeats 4000000 in
set_option maxRecDepth 100000 in
theorem kX10_letter (l : Launch) (D : va_G) (k : Nat → ClassId) (L : List Nat) (f : Nat → va_E) (S : SA) (hO : aOK S) (a : Nat → Nat) (tw : Int) (A1 A2 A3 A4 A5 A6 A7 A8 A9 A10 : Nat → Int32) (hM : mRep k L f a tw ((sN S)) ((sC S : Int)) A1 A2 A3 A4 A5 A6 A7 A8 A9 A10) (hMT : 0 ≤ tw ∧ tw ≤ 3) (hY : mSync S A1 A2 A3 A4 A5 A6 A7) (y : Nat) (hy : y < 6) (hc : sC S < 30) (n0 sz : Nat) : Met l yX10_letter wsX10_letter ({ frames := 1, cells := 0, slots := 0, locals := 25 } : Room) (va_Pc [.ref (a 0), .int (zI ((y : Int)))] (pPre D (tyL k) n0 (va_pl L f) sz)) (va_Qi (fun r9 u => r9 = zI (sC S : Int) ∧ ∃ (F : Nat → va_E) (B3 B4 B5 B6 B7 : Nat → Int32), u = va_pl L F ∧ mRep k L F a 0 ((sN S)) (((sC S + 1 : Nat) : Int)) A1 A2 B3 B4 B5 B6 B7 A8 A9 A10 ∧ mSync (addS S 11 y y 0 1) A1 A2 B3 B4 B5 B6 B7) (pB D (va_pl L f) sz) (va_A (va_pl L f) sz)) 0 0 (va_A (va_pl L f) sz) := by
  refine Met.ofW (cc := cX10_letter) (maxL := 2) (ret := (some .int)) (by decide) rfl ?_
  intro p e s m args below meth c s₁ B hml hv
  obtain ⟨rfl, hsz, hn9, hP, hC, hD0⟩ := hv
  have hK := hC.1
  have hNW := hC.2.1
  have hx := B.exec
  have hb := B.bytes
  have hrt := B.returns
  have hts := atoms_spec (ws := wsX10_letter) B.pre
  have hown : s.vm.findClass RX10 = some m.cls := findClass_of_methodNamed B.named
  have hlocks := B.notSynchronized
  subst hsz
  obtain ⟨A, hAd⟩ : ∃ A, A = va_A (va_pl L f) s.heap.size := ⟨_, rfl⟩
  have hD := hD0.self (sz := s.heap.size)
  rw [← hAd] at hD
  have hA : ∀ q : Nat, s.heap.size ≤ q → A q := fun q h => by rw [hAd]; exact Or.inr h
  have hAn : ∀ q : Nat, A q → n0 ≤ q := fun q h => by
    rw [hAd] at h
    rcases h with ⟨k9, e9, hk9⟩ | h
    · exact hD0.2 k9 _ hk9
    · exact Nat.le_trans hn9 h
  have hS : va_S A s.heap s.heap [] := va_S.rf
  have hi_X10 : ∀ w ∈ u_ws RX10 TX10 13, w ∈ wsX10_letter := by decide +kernel
  have hw_0 := hts (.fieldLink RX10 49 "RegionryModel" "nodes" "I") (by decide +kernel)
  have hl := lv_entry ([.ref (a 0), .int (zI ((y : Int)))]) (n := 2) (Nat.le_of_ble_eq_true rfl)
  rw [lg_entry_eq]
  generalize (lg_sl ([.ref (a 0), .int (zI ((y : Int)))]) ++ List.replicate (2 - (lg_sl ([.ref (a 0), .int (zI ((y : Int)))])).length) Slot.unset).toArray = ls at hl ⊢
  have hl : lv_has ls 2 [(0, .ref (a 0)), (1, .int (zI ((y : Int))))] := hl
  obtain ⟨Q, hQ⟩ : ∃ Q, Q = MQ below (va_Qi (fun r9 u => r9 = zI (sC S : Int) ∧ ∃ (F : Nat → va_E) (B3 B4 B5 B6 B7 : Nat → Int32), u = va_pl L F ∧ mRep k L F a 0 ((sN S)) (((sC S + 1 : Nat) : Int)) A1 A2 B3 B4 B5 B6 B7 A8 A9 A10 ∧ mSync (addS S 11 y y 0 1) A1 A2 B3 B4 B5 B6 B7) (pB D (va_pl L f) s.heap.size) (va_A (va_pl L f) s.heap.size)) ([.ref (a 0), .int (zI ((y : Int)))] : List Value).toArray s 0 0 (va_A (va_pl L f) s.heap.size) := ⟨_, rfl⟩
  rw [← hQ]
  have hMN := hO.1
  have hMC : 0 ≤ (sC S : Int) ∧ (sC S : Int) ≤ 30 := by have h8 := hO.2.2.2.1; omega
  refine lv_aload_n hx hb dX10_letter_0 rfl (lv_at hl 0 rfl) ?_
  refine lv_iload_n hx hb dX10_letter_1 rfl (lv_at hl 1 rfl) ?_
  refine zr_const hx hb dX10_letter_2 ?_
  refine zr_const hx hb dX10_letter_3 ?_
  refine vp_callSi (va_Run.run (va_runS (As := [.int (zI ((y : Int))), .int (zI (0)), .int (zI (5))]) (rest := [.ref (a 0)]) ⟨hx, hb, hml, hown, hts⟩ (kX10_in l D k L f ((y : Int)) (by omega) (0) (by omega) (5) (by omega)) (va_cwS 3 hts gX10_letter_X10_in rfl rfl rfl (by decide +kernel) ⟨Nat.le_of_ble_eq_true rfl, Nat.le_of_ble_eq_true rfl⟩) (rc_preS hC hP) rfl rfl hl.1 rfl (lv_room (Nat.le_of_ble_eq_true rfl)) dX10_letter_4 ⟨Nat.zero_le _, Nat.zero_le _⟩)) (fun r1 hr1 => ?_)
  subst hr1
  refine zr_ifb_ne (tgt := 14) hx hb dX10_letter_7 (by decide) (fun c2 => ?_) (fun c2 => ?_)
  · have hn_c2 := inB_i c2
    refine lv_aload_n hx hb dX10_letter_14 rfl (lv_at hl 0 rfl) ?_
    refine pl_get (ci := 9) (v := .int (zI ((sC S : Int)))) (C := RX10) (T := TX10) (N := 13) hx hb hts hi_X10 hown hK hP (hM.2.2.2.2.2.2.2.2.2.2.2.1 0 (by decide)) hM.1 rfl 4 (by decide) hw_0 (fun _ h9 => h9) rfl dX10_letter_15 ?_
    refine zr_bipush hx hb dX10_letter_18 (by decide) ?_
    refine zr_icmp_ne (tgt := 27) hx hb dX10_letter_20 (by decide) (by omega) (by omega) (fun c3 => ?_) (fun c3 => ?_)
    · refine zr_const hx hb dX10_letter_27 ?_
      refine pc_calli (va_runV (As := [.int (zI (0))]) (rest := []) ⟨hx, hb, hml, hown, hts⟩ (kX10_goesWell l D k L f a tw ((sN S)) ((sC S : Int)) A1 A2 A3 A4 A5 A6 A7 A8 A9 A10 hM (by omega) (by omega) (by omega) (0) (by omega) n0 _) (cwV 1 hts gX10_letter_X10_goesWell rfl rfl rfl (by decide +kernel) ⟨Nat.le_of_ble_eq_true rfl, Nat.le_of_ble_eq_true rfl⟩) (pc_preV hC hP (Nat.le_trans hn9 hS.1) hD hAn (pl_recv hK hP (hM.2.2.2.2.2.2.2.2.2.2.2.1 0 (by decide)) hM.1 (ci := 9) (q := (RX10, TX10, 13)) rfl)) rfl rfl hl.1 rfl (lv_room (Nat.le_of_ble_eq_true rfl)) dX10_letter_28 ⟨Nat.zero_le _, Nat.zero_le _⟩) hD hS hA (fun r4 ur4 H locs hr4 hP hD hS hzr4 => ?_)
      obtain ⟨hvr4, Fr4, hwr4, hMr4⟩ := hr4
      have hvr4 : r4 = bI (decide ((0 : Int) = 0)) := hvr4
      subst hvr4
      have hwr4 : ur4 = va_pl L Fr4 := hwr4
      subst hwr4
      refine zr_ifb_eq (tgt := 47) hx hb dX10_letter_31 (by decide) (fun c5 => ?_) (fun c5 => ?_)
      · exact absurd c5 (by decide)
      · refine lv_aload_n hx hb dX10_letter_34 rfl (lv_at hl 0 rfl) ?_
        refine zr_bipush hx hb dX10_letter_35 (by decide) ?_
        refine lv_iload_n hx hb dX10_letter_37 rfl (lv_at hl 1 rfl) ?_
        refine zr_const hx hb dX10_letter_38 ?_
        refine zr_const hx hb dX10_letter_39 ?_
        refine zr_const hx hb dX10_letter_40 ?_
        refine pc_calli (va_runV (As := [.int (zI (11)), .int (zI ((y : Int))), .int (zI (0)), .int (zI (0)), .int (zI (1))]) (rest := []) ⟨hx, hb, hml, hown, hts⟩ (kX10_make l D k L Fr4 S hO a 0 A1 A2 A3 A4 A5 A6 A7 A8 A9 A10 hMr4 (by omega) hY 11 ((y : Int)) 0 0 1 (by omega) n0 _) (cwV 5 hts gX10_letter_X10_make rfl rfl rfl (by decide +kernel) ⟨Nat.le_of_ble_eq_true rfl, Nat.le_of_ble_eq_true rfl⟩) (pc_preV hC hP (Nat.le_trans hn9 hS.1) hD hAn (pl_recv hK hP (hMr4.2.2.2.2.2.2.2.2.2.2.2.1 0 (by decide)) hMr4.1 (ci := 9) (q := (RX10, TX10, 13)) rfl)) rfl rfl hl.1 rfl (lv_room (Nat.le_of_ble_eq_true rfl)) dX10_letter_41 ⟨Nat.zero_le _, Nat.zero_le _⟩) hD hS hA (fun r6 ur6 H locs hr6 hP hD hS hzr6 => ?_)
        obtain ⟨hvr6, Fr6, hwr6, hMr6⟩ := hr6
        have hvr6 : r6 = zI (sC S : Int) := hvr6
        subst hvr6
        have hwr6 : ur6 = va_pl L Fr6 := hwr6
        subst hwr6
        refine lv_goto (tgt := 48) hx hb dX10_letter_44 (by decide) ?_
        rw [hQ]
        exact pc_iret hx hb hrt hP (by rw [← hAd]; exact hD) (by rw [← hAd]; exact hS) (⟨rfl, _, _, _, _, _, _, rfl, by rw [show ((sC S + 1 : Nat) : Int) = (sC S : Int) + 1 by omega]; exact hMr6, mSync.node hY 11 y y 0 1 (rfl) (rfl) (fun h => absurd rfl h) rfl (rfl)⟩) dX10_letter_48 hlocks
    · exfalso; omega
  · have hn_c2 := inB_n c2
    exfalso; omega

set_option maxHeartbeats 4000000 in
set_option maxRecDepth 100000 in
theorem kX10_letter_n (l : Launch) (D : va_G) (k : Nat → ClassId) (L : List Nat) (f : Nat → va_E) (S : SA) (hO : aOK S) (a : Nat → Nat) (tw : Int) (A1 A2 A3 A4 A5 A6 A7 A8 A9 A10 : Nat → Int32) (hM : mRep k L f a tw ((sN S)) ((sC S : Int)) A1 A2 A3 A4 A5 A6 A7 A8 A9 A10) (hMT : 0 ≤ tw ∧ tw ≤ 3) (hY : mSync S A1 A2 A3 A4 A5 A6 A7) (z : Int) (hz : -2147483648 ≤ z ∧ z < 2147483648) (kk : Int) (hE : (¬ (0 ≤ z ∧ z < 6) ∧ kk = 1) ∨ ((0 ≤ z ∧ z < 6) ∧ sC S = 30 ∧ kk = 2)) (n0 sz : Nat) : Met l yX10_letter wsX10_letter ({ frames := 1, cells := 0, slots := 0, locals := 22 } : Room) (va_Pc [.ref (a 0), .int (zI (z))] (pPre D (tyL k) n0 (va_pl L f) sz)) (va_Qi (fun _ u => ∃ F : Nat → va_E, u = va_pl L F ∧ mRep k L F a kk ((sN S)) ((sC S : Int)) A1 A2 A3 A4 A5 A6 A7 A8 A9 A10) (pB D (va_pl L f) sz) (va_A (va_pl L f) sz)) 0 0 (va_A (va_pl L f) sz) := by
  refine Met.ofW (cc := cX10_letter) (maxL := 2) (ret := (some .int)) (by decide) rfl ?_
  intro p e s m args below meth c s₁ B hml hv
  obtain ⟨rfl, hsz, hn9, hP, hC, hD0⟩ := hv
  have hK := hC.1
  have hNW := hC.2.1
  have hx := B.exec
  have hb := B.bytes
  have hrt := B.returns
  have hts := atoms_spec (ws := wsX10_letter) B.pre
  have hown : s.vm.findClass RX10 = some m.cls := findClass_of_methodNamed B.named
  have hlocks := B.notSynchronized
  subst hsz
  obtain ⟨A, hAd⟩ : ∃ A, A = va_A (va_pl L f) s.heap.size := ⟨_, rfl⟩
  have hD := hD0.self (sz := s.heap.size)
  rw [← hAd] at hD
  have hA : ∀ q : Nat, s.heap.size ≤ q → A q := fun q h => by rw [hAd]; exact Or.inr h
  have hAn : ∀ q : Nat, A q → n0 ≤ q := fun q h => by
    rw [hAd] at h
    rcases h with ⟨k9, e9, hk9⟩ | h
    · exact hD0.2 k9 _ hk9
    · exact Nat.le_trans hn9 h
  have hS : va_S A s.heap s.heap [] := va_S.rf
  have hi_X10 : ∀ w ∈ u_ws RX10 TX10 13, w ∈ wsX10_letter := by decide +kernel
  have hw_0 := hts (.fieldLink RX10 49 "RegionryModel" "nodes" "I") (by decide +kernel)
  have hl := lv_entry ([.ref (a 0), .int (zI (z))]) (n := 2) (Nat.le_of_ble_eq_true rfl)
  rw [lg_entry_eq]
  generalize (lg_sl ([.ref (a 0), .int (zI (z))]) ++ List.replicate (2 - (lg_sl ([.ref (a 0), .int (zI (z))])).length) Slot.unset).toArray = ls at hl ⊢
  have hl : lv_has ls 2 [(0, .ref (a 0)), (1, .int (zI (z)))] := hl
  obtain ⟨Q, hQ⟩ : ∃ Q, Q = MQ below (va_Qi (fun _ u => ∃ F : Nat → va_E, u = va_pl L F ∧ mRep k L F a kk ((sN S)) ((sC S : Int)) A1 A2 A3 A4 A5 A6 A7 A8 A9 A10) (pB D (va_pl L f) s.heap.size) (va_A (va_pl L f) s.heap.size)) ([.ref (a 0), .int (zI (z))] : List Value).toArray s 0 0 (va_A (va_pl L f) s.heap.size) := ⟨_, rfl⟩
  rw [← hQ]
  have hMN := hO.1
  have hMC : 0 ≤ (sC S : Int) ∧ (sC S : Int) ≤ 30 := by have h8 := hO.2.2.2.1; omega
  refine lv_aload_n hx hb dX10_letter_0 rfl (lv_at hl 0 rfl) ?_
  refine lv_iload_n hx hb dX10_letter_1 rfl (lv_at hl 1 rfl) ?_
  refine zr_const hx hb dX10_letter_2 ?_
  refine zr_const hx hb dX10_letter_3 ?_
  refine vp_callSi (va_Run.run (va_runS (As := [.int (zI (z)), .int (zI (0)), .int (zI (5))]) (rest := [.ref (a 0)]) ⟨hx, hb, hml, hown, hts⟩ (kX10_in l D k L f (z) (by omega) (0) (by omega) (5) (by omega)) (va_cwS 3 hts gX10_letter_X10_in rfl rfl rfl (by decide +kernel) ⟨Nat.le_of_ble_eq_true rfl, Nat.le_of_ble_eq_true rfl⟩) (rc_preS hC hP) rfl rfl hl.1 rfl (lv_room (Nat.le_of_ble_eq_true rfl)) dX10_letter_4 ⟨Nat.zero_le _, Nat.zero_le _⟩)) (fun r1 hr1 => ?_)
  subst hr1
  refine zr_ifb_ne (tgt := 14) hx hb dX10_letter_7 (by decide) (fun c2 => ?_) (fun c2 => ?_)
  · have hn_c2 := inB_i c2
    refine lv_aload_n hx hb dX10_letter_14 rfl (lv_at hl 0 rfl) ?_
    refine pl_get (ci := 9) (v := .int (zI ((sC S : Int)))) (C := RX10) (T := TX10) (N := 13) hx hb hts hi_X10 hown hK hP (hM.2.2.2.2.2.2.2.2.2.2.2.1 0 (by decide)) hM.1 rfl 4 (by decide) hw_0 (fun _ h9 => h9) rfl dX10_letter_15 ?_
    refine zr_bipush hx hb dX10_letter_18 (by decide) ?_
    refine zr_icmp_ne (tgt := 27) hx hb dX10_letter_20 (by decide) (by omega) (by omega) (fun c3 => ?_) (fun c3 => ?_)
    · refine zr_const hx hb dX10_letter_27 ?_
      refine pc_calli (va_runV (As := [.int (zI (0))]) (rest := []) ⟨hx, hb, hml, hown, hts⟩ (kX10_goesWell l D k L f a tw ((sN S)) ((sC S : Int)) A1 A2 A3 A4 A5 A6 A7 A8 A9 A10 hM (by omega) (by omega) (by omega) (0) (by omega) n0 _) (cwV 1 hts gX10_letter_X10_goesWell rfl rfl rfl (by decide +kernel) ⟨Nat.le_of_ble_eq_true rfl, Nat.le_of_ble_eq_true rfl⟩) (pc_preV hC hP (Nat.le_trans hn9 hS.1) hD hAn (pl_recv hK hP (hM.2.2.2.2.2.2.2.2.2.2.2.1 0 (by decide)) hM.1 (ci := 9) (q := (RX10, TX10, 13)) rfl)) rfl rfl hl.1 rfl (lv_room (Nat.le_of_ble_eq_true rfl)) dX10_letter_28 ⟨Nat.zero_le _, Nat.zero_le _⟩) hD hS hA (fun r4 ur4 H locs hr4 hP hD hS hzr4 => ?_)
      obtain ⟨hvr4, Fr4, hwr4, hMr4⟩ := hr4
      have hvr4 : r4 = bI (decide ((0 : Int) = 0)) := hvr4
      subst hvr4
      have hwr4 : ur4 = va_pl L Fr4 := hwr4
      subst hwr4
      refine zr_ifb_eq (tgt := 47) hx hb dX10_letter_31 (by decide) (fun c5 => ?_) (fun c5 => ?_)
      · exact absurd c5 (by decide)
      · exfalso; omega
    · refine zr_const hx hb dX10_letter_23 ?_
      refine lv_goto (tgt := 28) hx hb dX10_letter_24 (by decide) ?_
      refine pc_calli (va_runV (As := [.int (zI (2))]) (rest := []) ⟨hx, hb, hml, hown, hts⟩ (kX10_goesWell l D k L f a tw ((sN S)) ((sC S : Int)) A1 A2 A3 A4 A5 A6 A7 A8 A9 A10 hM (by omega) (by omega) (by omega) (2) (by omega) n0 _) (cwV 1 hts gX10_letter_X10_goesWell rfl rfl rfl (by decide +kernel) ⟨Nat.le_of_ble_eq_true rfl, Nat.le_of_ble_eq_true rfl⟩) (pc_preV hC hP (Nat.le_trans hn9 hS.1) hD hAn (pl_recv hK hP (hM.2.2.2.2.2.2.2.2.2.2.2.1 0 (by decide)) hM.1 (ci := 9) (q := (RX10, TX10, 13)) rfl)) rfl rfl hl.1 rfl (lv_room (Nat.le_of_ble_eq_true rfl)) dX10_letter_28 ⟨Nat.zero_le _, Nat.zero_le _⟩) hD hS hA (fun r6 ur6 H locs hr6 hP hD hS hzr6 => ?_)
      obtain ⟨hvr6, Fr6, hwr6, hMr6⟩ := hr6
      have hvr6 : r6 = bI (decide ((2 : Int) = 0)) := hvr6
      subst hvr6
      have hwr6 : ur6 = va_pl L Fr6 := hwr6
      subst hwr6
      refine zr_ifb_eq (tgt := 47) hx hb dX10_letter_31 (by decide) (fun c7 => ?_) (fun c7 => ?_)
      · refine zr_const hx hb dX10_letter_47 ?_
        rw [hQ]
        exact pc_iret hx hb hrt hP (by rw [← hAd]; exact hD) (by rw [← hAd]; exact hS) (⟨_, rfl, by rw [show kk = 2 by omega]; exact hMr6⟩) dX10_letter_48 hlocks
      · exact absurd c7 (by decide)
  · have hn_c2 := inB_n c2
    refine zr_const hx hb dX10_letter_10 ?_
    refine lv_goto (tgt := 28) hx hb dX10_letter_11 (by decide) ?_
    refine pc_calli (va_runV (As := [.int (zI (1))]) (rest := []) ⟨hx, hb, hml, hown, hts⟩ (kX10_goesWell l D k L f a tw ((sN S)) ((sC S : Int)) A1 A2 A3 A4 A5 A6 A7 A8 A9 A10 hM (by omega) (by omega) (by omega) (1) (by omega) n0 _) (cwV 1 hts gX10_letter_X10_goesWell rfl rfl rfl (by decide +kernel) ⟨Nat.le_of_ble_eq_true rfl, Nat.le_of_ble_eq_true rfl⟩) (pc_preV hC hP (Nat.le_trans hn9 hS.1) hD hAn (pl_recv hK hP (hM.2.2.2.2.2.2.2.2.2.2.2.1 0 (by decide)) hM.1 (ci := 9) (q := (RX10, TX10, 13)) rfl)) rfl rfl hl.1 rfl (lv_room (Nat.le_of_ble_eq_true rfl)) dX10_letter_28 ⟨Nat.zero_le _, Nat.zero_le _⟩) hD hS hA (fun r8 ur8 H locs hr8 hP hD hS hzr8 => ?_)
    obtain ⟨hvr8, Fr8, hwr8, hMr8⟩ := hr8
    have hvr8 : r8 = bI (decide ((1 : Int) = 0)) := hvr8
    subst hvr8
    have hwr8 : ur8 = va_pl L Fr8 := hwr8
    subst hwr8
    refine zr_ifb_eq (tgt := 47) hx hb dX10_letter_31 (by decide) (fun c9 => ?_) (fun c9 => ?_)
    · refine zr_const hx hb dX10_letter_47 ?_
      rw [hQ]
      exact pc_iret hx hb hrt hP (by rw [← hAd]; exact hD) (by rw [← hAd]; exact hS) (⟨_, rfl, by rw [show kk = 1 by omega]; exact hMr8⟩) dX10_letter_48 hlocks
    · exact absurd c9 (by decide)

set_option maxHeartbeats 4000000 in
set_option maxRecDepth 100000 in
theorem kX10_marked (l : Launch) (D : va_G) (k : Nat → ClassId) (L : List Nat) (f : Nat → va_E) (S : SA) (hO : aOK S) (a : Nat → Nat) (tw : Int) (A1 A2 A3 A4 A5 A6 A7 A8 A9 A10 : Nat → Int32) (hM : mRep k L f a tw ((sN S)) ((sC S : Int)) A1 A2 A3 A4 A5 A6 A7 A8 A9 A10) (hMT : 0 ≤ tw ∧ tw ≤ 3) (hY : mSync S A1 A2 A3 A4 A5 A6 A7) (y : Nat) (hy : y < 4) (hc : sC S < 30) (n0 sz : Nat) : Met l yX10_marked wsX10_marked ({ frames := 2, cells := 0, slots := 0, locals := 42 } : Room) (va_Pc [.ref (a 0), .int (zI ((y : Int)))] (pPre D (tyL k) n0 (va_pl L f) sz)) (va_Qi (fun r9 u => r9 = zI (sC S : Int) ∧ ∃ (F : Nat → va_E) (B3 B4 B5 B6 B7 : Nat → Int32), u = va_pl L F ∧ mRep k L F a 0 ((sN S)) (((sC S + 1 : Nat) : Int)) A1 A2 B3 B4 B5 B6 B7 A8 A9 A10 ∧ mSync (addS S 12 y y 0 1) A1 A2 B3 B4 B5 B6 B7) (pB D (va_pl L f) sz) (va_A (va_pl L f) sz)) 0 0 (va_A (va_pl L f) sz) := by
  refine Met.ofW (cc := cX10_marked) (maxL := 2) (ret := (some .int)) (by decide) rfl ?_
  intro p e s m args below meth c s₁ B hml hv
  obtain ⟨rfl, hsz, hn9, hP, hC, hD0⟩ := hv
  have hK := hC.1
  have hNW := hC.2.1
  have hx := B.exec
  have hb := B.bytes
  have hrt := B.returns
  have hts := atoms_spec (ws := wsX10_marked) B.pre
  have hown : s.vm.findClass RX10 = some m.cls := findClass_of_methodNamed B.named
  have hlocks := B.notSynchronized
  subst hsz
  obtain ⟨A, hAd⟩ : ∃ A, A = va_A (va_pl L f) s.heap.size := ⟨_, rfl⟩
  have hD := hD0.self (sz := s.heap.size)
  rw [← hAd] at hD
  have hA : ∀ q : Nat, s.heap.size ≤ q → A q := fun q h => by rw [hAd]; exact Or.inr h
  have hAn : ∀ q : Nat, A q → n0 ≤ q := fun q h => by
    rw [hAd] at h
    rcases h with ⟨k9, e9, hk9⟩ | h
    · exact hD0.2 k9 _ hk9
    · exact Nat.le_trans hn9 h
  have hS : va_S A s.heap s.heap [] := va_S.rf
  have hi_X10 : ∀ w ∈ u_ws RX10 TX10 13, w ∈ wsX10_marked := by decide +kernel
  have hw_0 := hts (.fieldLink RX10 49 "RegionryModel" "nodes" "I") (by decide +kernel)
  have hl := lv_entry ([.ref (a 0), .int (zI ((y : Int)))]) (n := 2) (Nat.le_of_ble_eq_true rfl)
  rw [lg_entry_eq]
  generalize (lg_sl ([.ref (a 0), .int (zI ((y : Int)))]) ++ List.replicate (2 - (lg_sl ([.ref (a 0), .int (zI ((y : Int)))])).length) Slot.unset).toArray = ls at hl ⊢
  have hl : lv_has ls 2 [(0, .ref (a 0)), (1, .int (zI ((y : Int))))] := hl
  obtain ⟨Q, hQ⟩ : ∃ Q, Q = MQ below (va_Qi (fun r9 u => r9 = zI (sC S : Int) ∧ ∃ (F : Nat → va_E) (B3 B4 B5 B6 B7 : Nat → Int32), u = va_pl L F ∧ mRep k L F a 0 ((sN S)) (((sC S + 1 : Nat) : Int)) A1 A2 B3 B4 B5 B6 B7 A8 A9 A10 ∧ mSync (addS S 12 y y 0 1) A1 A2 B3 B4 B5 B6 B7) (pB D (va_pl L f) s.heap.size) (va_A (va_pl L f) s.heap.size)) ([.ref (a 0), .int (zI ((y : Int)))] : List Value).toArray s 0 0 (va_A (va_pl L f) s.heap.size) := ⟨_, rfl⟩
  rw [← hQ]
  have hMN := hO.1
  have hMC : 0 ≤ (sC S : Int) ∧ (sC S : Int) ≤ 30 := by have h8 := hO.2.2.2.1; omega
  refine lv_aload_n hx hb dX10_marked_0 rfl (lv_at hl 0 rfl) ?_
  refine lv_iload_n hx hb dX10_marked_1 rfl (lv_at hl 1 rfl) ?_
  refine vp_callSi (va_Run.run (va_runS (As := [.int (zI ((y : Int)))]) (rest := [.ref (a 0)]) ⟨hx, hb, hml, hown, hts⟩ (kX10_isKind l D k L f ((y : Int)) (by omega)) (va_cwS 1 hts gX10_marked_X10_isKind rfl rfl rfl (by decide +kernel) ⟨Nat.le_of_ble_eq_true rfl, Nat.le_of_ble_eq_true rfl⟩) (rc_preS hC hP) rfl rfl hl.1 rfl (lv_room (Nat.le_of_ble_eq_true rfl)) dX10_marked_2 ⟨Nat.zero_le _, Nat.zero_le _⟩)) (fun r1 hr1 => ?_)
  subst hr1
  refine zr_ifb_ne (tgt := 12) hx hb dX10_marked_5 (by decide) (fun c2 => ?_) (fun c2 => ?_)
  · have hn_c2 := inB_i c2
    refine lv_aload_n hx hb dX10_marked_12 rfl (lv_at hl 0 rfl) ?_
    refine pl_get (ci := 9) (v := .int (zI ((sC S : Int)))) (C := RX10) (T := TX10) (N := 13) hx hb hts hi_X10 hown hK hP (hM.2.2.2.2.2.2.2.2.2.2.2.1 0 (by decide)) hM.1 rfl 4 (by decide) hw_0 (fun _ h9 => h9) rfl dX10_marked_13 ?_
    refine zr_bipush hx hb dX10_marked_16 (by decide) ?_
    refine zr_icmp_ne (tgt := 25) hx hb dX10_marked_18 (by decide) (by omega) (by omega) (fun c3 => ?_) (fun c3 => ?_)
    · refine zr_const hx hb dX10_marked_25 ?_
      refine pc_calli (va_runV (As := [.int (zI (0))]) (rest := []) ⟨hx, hb, hml, hown, hts⟩ (kX10_goesWell l D k L f a tw ((sN S)) ((sC S : Int)) A1 A2 A3 A4 A5 A6 A7 A8 A9 A10 hM (by omega) (by omega) (by omega) (0) (by omega) n0 _) (cwV 1 hts gX10_marked_X10_goesWell rfl rfl rfl (by decide +kernel) ⟨Nat.le_of_ble_eq_true rfl, Nat.le_of_ble_eq_true rfl⟩) (pc_preV hC hP (Nat.le_trans hn9 hS.1) hD hAn (pl_recv hK hP (hM.2.2.2.2.2.2.2.2.2.2.2.1 0 (by decide)) hM.1 (ci := 9) (q := (RX10, TX10, 13)) rfl)) rfl rfl hl.1 rfl (lv_room (Nat.le_of_ble_eq_true rfl)) dX10_marked_26 ⟨Nat.zero_le _, Nat.zero_le _⟩) hD hS hA (fun r4 ur4 H locs hr4 hP hD hS hzr4 => ?_)
      obtain ⟨hvr4, Fr4, hwr4, hMr4⟩ := hr4
      have hvr4 : r4 = bI (decide ((0 : Int) = 0)) := hvr4
      subst hvr4
      have hwr4 : ur4 = va_pl L Fr4 := hwr4
      subst hwr4
      refine zr_ifb_eq (tgt := 45) hx hb dX10_marked_29 (by decide) (fun c5 => ?_) (fun c5 => ?_)
      · exact absurd c5 (by decide)
      · refine lv_aload_n hx hb dX10_marked_32 rfl (lv_at hl 0 rfl) ?_
        refine zr_bipush hx hb dX10_marked_33 (by decide) ?_
        refine lv_iload_n hx hb dX10_marked_35 rfl (lv_at hl 1 rfl) ?_
        refine zr_const hx hb dX10_marked_36 ?_
        refine zr_const hx hb dX10_marked_37 ?_
        refine zr_const hx hb dX10_marked_38 ?_
        refine pc_calli (va_runV (As := [.int (zI (12)), .int (zI ((y : Int))), .int (zI (0)), .int (zI (0)), .int (zI (1))]) (rest := []) ⟨hx, hb, hml, hown, hts⟩ (kX10_make l D k L Fr4 S hO a 0 A1 A2 A3 A4 A5 A6 A7 A8 A9 A10 hMr4 (by omega) hY 12 ((y : Int)) 0 0 1 (by omega) n0 _) (cwV 5 hts gX10_marked_X10_make rfl rfl rfl (by decide +kernel) ⟨Nat.le_of_ble_eq_true rfl, Nat.le_of_ble_eq_true rfl⟩) (pc_preV hC hP (Nat.le_trans hn9 hS.1) hD hAn (pl_recv hK hP (hMr4.2.2.2.2.2.2.2.2.2.2.2.1 0 (by decide)) hMr4.1 (ci := 9) (q := (RX10, TX10, 13)) rfl)) rfl rfl hl.1 rfl (lv_room (Nat.le_of_ble_eq_true rfl)) dX10_marked_39 ⟨Nat.zero_le _, Nat.zero_le _⟩) hD hS hA (fun r6 ur6 H locs hr6 hP hD hS hzr6 => ?_)
        obtain ⟨hvr6, Fr6, hwr6, hMr6⟩ := hr6
        have hvr6 : r6 = zI (sC S : Int) := hvr6
        subst hvr6
        have hwr6 : ur6 = va_pl L Fr6 := hwr6
        subst hwr6
        refine lv_goto (tgt := 46) hx hb dX10_marked_42 (by decide) ?_
        rw [hQ]
        exact pc_iret hx hb hrt hP (by rw [← hAd]; exact hD) (by rw [← hAd]; exact hS) (⟨rfl, _, _, _, _, _, _, rfl, by rw [show ((sC S + 1 : Nat) : Int) = (sC S : Int) + 1 by omega]; exact hMr6, mSync.node hY 12 y y 0 1 (rfl) (rfl) (fun _ h => absurd rfl h) rfl (rfl)⟩) dX10_marked_46 hlocks
    · exfalso; omega
  · have hn_c2 := inB_n c2
    exfalso; omega

set_option maxHeartbeats 4000000 in
set_option maxRecDepth 100000 in
theorem kX10_marked_n (l : Launch) (D : va_G) (k : Nat → ClassId) (L : List Nat) (f : Nat → va_E) (S : SA) (hO : aOK S) (a : Nat → Nat) (tw : Int) (A1 A2 A3 A4 A5 A6 A7 A8 A9 A10 : Nat → Int32) (hM : mRep k L f a tw ((sN S)) ((sC S : Int)) A1 A2 A3 A4 A5 A6 A7 A8 A9 A10) (hMT : 0 ≤ tw ∧ tw ≤ 3) (hY : mSync S A1 A2 A3 A4 A5 A6 A7) (z : Int) (hz : -2147483648 ≤ z ∧ z < 2147483648) (kk : Int) (hE : (¬ (0 ≤ z ∧ z < 4) ∧ kk = 1) ∨ ((0 ≤ z ∧ z < 4) ∧ sC S = 30 ∧ kk = 2)) (n0 sz : Nat) : Met l yX10_marked wsX10_marked ({ frames := 2, cells := 0, slots := 0, locals := 42 } : Room) (va_Pc [.ref (a 0), .int (zI (z))] (pPre D (tyL k) n0 (va_pl L f) sz)) (va_Qi (fun _ u => ∃ F : Nat → va_E, u = va_pl L F ∧ mRep k L F a kk ((sN S)) ((sC S : Int)) A1 A2 A3 A4 A5 A6 A7 A8 A9 A10) (pB D (va_pl L f) sz) (va_A (va_pl L f) sz)) 0 0 (va_A (va_pl L f) sz) := by
  refine Met.ofW (cc := cX10_marked) (maxL := 2) (ret := (some .int)) (by decide) rfl ?_
  intro p e s m args below meth c s₁ B hml hv
  obtain ⟨rfl, hsz, hn9, hP, hC, hD0⟩ := hv
  have hK := hC.1
  have hNW := hC.2.1
  have hx := B.exec
  have hb := B.bytes
  have hrt := B.returns
  have hts := atoms_spec (ws := wsX10_marked) B.pre
  have hown : s.vm.findClass RX10 = some m.cls := findClass_of_methodNamed B.named
  have hlocks := B.notSynchronized
  subst hsz
  obtain ⟨A, hAd⟩ : ∃ A, A = va_A (va_pl L f) s.heap.size := ⟨_, rfl⟩
  have hD := hD0.self (sz := s.heap.size)
  rw [← hAd] at hD
  have hA : ∀ q : Nat, s.heap.size ≤ q → A q := fun q h => by rw [hAd]; exact Or.inr h
  have hAn : ∀ q : Nat, A q → n0 ≤ q := fun q h => by
    rw [hAd] at h
    rcases h with ⟨k9, e9, hk9⟩ | h
    · exact hD0.2 k9 _ hk9
    · exact Nat.le_trans hn9 h
  have hS : va_S A s.heap s.heap [] := va_S.rf
  have hi_X10 : ∀ w ∈ u_ws RX10 TX10 13, w ∈ wsX10_marked := by decide +kernel
  have hw_0 := hts (.fieldLink RX10 49 "RegionryModel" "nodes" "I") (by decide +kernel)
  have hl := lv_entry ([.ref (a 0), .int (zI (z))]) (n := 2) (Nat.le_of_ble_eq_true rfl)
  rw [lg_entry_eq]
  generalize (lg_sl ([.ref (a 0), .int (zI (z))]) ++ List.replicate (2 - (lg_sl ([.ref (a 0), .int (zI (z))])).length) Slot.unset).toArray = ls at hl ⊢
  have hl : lv_has ls 2 [(0, .ref (a 0)), (1, .int (zI (z)))] := hl
  obtain ⟨Q, hQ⟩ : ∃ Q, Q = MQ below (va_Qi (fun _ u => ∃ F : Nat → va_E, u = va_pl L F ∧ mRep k L F a kk ((sN S)) ((sC S : Int)) A1 A2 A3 A4 A5 A6 A7 A8 A9 A10) (pB D (va_pl L f) s.heap.size) (va_A (va_pl L f) s.heap.size)) ([.ref (a 0), .int (zI (z))] : List Value).toArray s 0 0 (va_A (va_pl L f) s.heap.size) := ⟨_, rfl⟩
  rw [← hQ]
  have hMN := hO.1
  have hMC : 0 ≤ (sC S : Int) ∧ (sC S : Int) ≤ 30 := by have h8 := hO.2.2.2.1; omega
  refine lv_aload_n hx hb dX10_marked_0 rfl (lv_at hl 0 rfl) ?_
  refine lv_iload_n hx hb dX10_marked_1 rfl (lv_at hl 1 rfl) ?_
  refine vp_callSi (va_Run.run (va_runS (As := [.int (zI (z))]) (rest := [.ref (a 0)]) ⟨hx, hb, hml, hown, hts⟩ (kX10_isKind l D k L f (z) (by omega)) (va_cwS 1 hts gX10_marked_X10_isKind rfl rfl rfl (by decide +kernel) ⟨Nat.le_of_ble_eq_true rfl, Nat.le_of_ble_eq_true rfl⟩) (rc_preS hC hP) rfl rfl hl.1 rfl (lv_room (Nat.le_of_ble_eq_true rfl)) dX10_marked_2 ⟨Nat.zero_le _, Nat.zero_le _⟩)) (fun r1 hr1 => ?_)
  subst hr1
  refine zr_ifb_ne (tgt := 12) hx hb dX10_marked_5 (by decide) (fun c2 => ?_) (fun c2 => ?_)
  · have hn_c2 := inB_i c2
    refine lv_aload_n hx hb dX10_marked_12 rfl (lv_at hl 0 rfl) ?_
    refine pl_get (ci := 9) (v := .int (zI ((sC S : Int)))) (C := RX10) (T := TX10) (N := 13) hx hb hts hi_X10 hown hK hP (hM.2.2.2.2.2.2.2.2.2.2.2.1 0 (by decide)) hM.1 rfl 4 (by decide) hw_0 (fun _ h9 => h9) rfl dX10_marked_13 ?_
    refine zr_bipush hx hb dX10_marked_16 (by decide) ?_
    refine zr_icmp_ne (tgt := 25) hx hb dX10_marked_18 (by decide) (by omega) (by omega) (fun c3 => ?_) (fun c3 => ?_)
    · refine zr_const hx hb dX10_marked_25 ?_
      refine pc_calli (va_runV (As := [.int (zI (0))]) (rest := []) ⟨hx, hb, hml, hown, hts⟩ (kX10_goesWell l D k L f a tw ((sN S)) ((sC S : Int)) A1 A2 A3 A4 A5 A6 A7 A8 A9 A10 hM (by omega) (by omega) (by omega) (0) (by omega) n0 _) (cwV 1 hts gX10_marked_X10_goesWell rfl rfl rfl (by decide +kernel) ⟨Nat.le_of_ble_eq_true rfl, Nat.le_of_ble_eq_true rfl⟩) (pc_preV hC hP (Nat.le_trans hn9 hS.1) hD hAn (pl_recv hK hP (hM.2.2.2.2.2.2.2.2.2.2.2.1 0 (by decide)) hM.1 (ci := 9) (q := (RX10, TX10, 13)) rfl)) rfl rfl hl.1 rfl (lv_room (Nat.le_of_ble_eq_true rfl)) dX10_marked_26 ⟨Nat.zero_le _, Nat.zero_le _⟩) hD hS hA (fun r4 ur4 H locs hr4 hP hD hS hzr4 => ?_)
      obtain ⟨hvr4, Fr4, hwr4, hMr4⟩ := hr4
      have hvr4 : r4 = bI (decide ((0 : Int) = 0)) := hvr4
      subst hvr4
      have hwr4 : ur4 = va_pl L Fr4 := hwr4
      subst hwr4
      refine zr_ifb_eq (tgt := 45) hx hb dX10_marked_29 (by decide) (fun c5 => ?_) (fun c5 => ?_)
      · exact absurd c5 (by decide)
      · exfalso; omega
    · refine zr_const hx hb dX10_marked_21 ?_
      refine lv_goto (tgt := 26) hx hb dX10_marked_22 (by decide) ?_
      refine pc_calli (va_runV (As := [.int (zI (2))]) (rest := []) ⟨hx, hb, hml, hown, hts⟩ (kX10_goesWell l D k L f a tw ((sN S)) ((sC S : Int)) A1 A2 A3 A4 A5 A6 A7 A8 A9 A10 hM (by omega) (by omega) (by omega) (2) (by omega) n0 _) (cwV 1 hts gX10_marked_X10_goesWell rfl rfl rfl (by decide +kernel) ⟨Nat.le_of_ble_eq_true rfl, Nat.le_of_ble_eq_true rfl⟩) (pc_preV hC hP (Nat.le_trans hn9 hS.1) hD hAn (pl_recv hK hP (hM.2.2.2.2.2.2.2.2.2.2.2.1 0 (by decide)) hM.1 (ci := 9) (q := (RX10, TX10, 13)) rfl)) rfl rfl hl.1 rfl (lv_room (Nat.le_of_ble_eq_true rfl)) dX10_marked_26 ⟨Nat.zero_le _, Nat.zero_le _⟩) hD hS hA (fun r6 ur6 H locs hr6 hP hD hS hzr6 => ?_)
      obtain ⟨hvr6, Fr6, hwr6, hMr6⟩ := hr6
      have hvr6 : r6 = bI (decide ((2 : Int) = 0)) := hvr6
      subst hvr6
      have hwr6 : ur6 = va_pl L Fr6 := hwr6
      subst hwr6
      refine zr_ifb_eq (tgt := 45) hx hb dX10_marked_29 (by decide) (fun c7 => ?_) (fun c7 => ?_)
      · refine zr_const hx hb dX10_marked_45 ?_
        rw [hQ]
        exact pc_iret hx hb hrt hP (by rw [← hAd]; exact hD) (by rw [← hAd]; exact hS) (⟨_, rfl, by rw [show kk = 2 by omega]; exact hMr6⟩) dX10_marked_46 hlocks
      · exact absurd c7 (by decide)
  · have hn_c2 := inB_n c2
    refine zr_const hx hb dX10_marked_8 ?_
    refine lv_goto (tgt := 26) hx hb dX10_marked_9 (by decide) ?_
    refine pc_calli (va_runV (As := [.int (zI (1))]) (rest := []) ⟨hx, hb, hml, hown, hts⟩ (kX10_goesWell l D k L f a tw ((sN S)) ((sC S : Int)) A1 A2 A3 A4 A5 A6 A7 A8 A9 A10 hM (by omega) (by omega) (by omega) (1) (by omega) n0 _) (cwV 1 hts gX10_marked_X10_goesWell rfl rfl rfl (by decide +kernel) ⟨Nat.le_of_ble_eq_true rfl, Nat.le_of_ble_eq_true rfl⟩) (pc_preV hC hP (Nat.le_trans hn9 hS.1) hD hAn (pl_recv hK hP (hM.2.2.2.2.2.2.2.2.2.2.2.1 0 (by decide)) hM.1 (ci := 9) (q := (RX10, TX10, 13)) rfl)) rfl rfl hl.1 rfl (lv_room (Nat.le_of_ble_eq_true rfl)) dX10_marked_26 ⟨Nat.zero_le _, Nat.zero_le _⟩) hD hS hA (fun r8 ur8 H locs hr8 hP hD hS hzr8 => ?_)
    obtain ⟨hvr8, Fr8, hwr8, hMr8⟩ := hr8
    have hvr8 : r8 = bI (decide ((1 : Int) = 0)) := hvr8
    subst hvr8
    have hwr8 : ur8 = va_pl L Fr8 := hwr8
    subst hwr8
    refine zr_ifb_eq (tgt := 45) hx hb dX10_marked_29 (by decide) (fun c9 => ?_) (fun c9 => ?_)
    · refine zr_const hx hb dX10_marked_45 ?_
      rw [hQ]
      exact pc_iret hx hb hrt hP (by rw [← hAd]; exact hD) (by rw [← hAd]; exact hS) (⟨_, rfl, by rw [show kk = 1 by omega]; exact hMr8⟩) dX10_marked_46 hlocks
    · exact absurd c9 (by decide)

set_option maxHeartbeats 4000000 in
set_option maxRecDepth 100000 in
theorem kX10_depthOf (l : Launch) (D : va_G) (k : Nat → ClassId) (L : List Nat) (f : Nat → va_E) (S : SA) (hO : aOK S) (a : Nat → Nat) (tw : Int) (A1 A2 A3 A4 A5 A6 A7 A8 A9 A10 : Nat → Int32) (hM : mRep k L f a tw ((sN S)) ((sC S : Int)) A1 A2 A3 A4 A5 A6 A7 A8 A9 A10) (hMT : 0 ≤ tw ∧ tw ≤ 3) (hY : mSync S A1 A2 A3 A4 A5 A6 A7) (i : Nat) (hi : i < sC S) (j : Nat) (hj : j < sC S) : Met l yX10_depthOf wsX10_depthOf ({ frames := 0, cells := 0, slots := 0, locals := 0 } : Room) (va_Pc [.ref (a 0), .int (zI ((i : Int))), .int (zI ((j : Int)))] (rPre D (tyL k) (va_pl L f))) (vp_Si (fun r9 => r9 = zI (1 + max (sD S i) (sD S j)))) 0 0 (fun _ => False) := by
  refine Met.ofW (cc := cX10_depthOf) (maxL := 3) (ret := (some .int)) (by decide) rfl ?_
  intro p e s m args below meth c s₁ B hml hv
  obtain ⟨rfl, hP, hC⟩ := hv
  have hK := hC.1
  have hNW := hC.2.1
  have hx := B.exec
  have hb := B.bytes
  have hrt := B.returns
  have hts := atoms_spec (ws := wsX10_depthOf) B.pre
  have hown : s.vm.findClass RX10 = some m.cls := findClass_of_methodNamed B.named
  have hlocks := B.notSynchronized
  have hi_X10 : ∀ w ∈ u_ws RX10 TX10 13, w ∈ wsX10_depthOf := by decide +kernel
  have hw_0 := hts (.fieldLink RX10 28 "RegionryModel" "depths" "[I") (by decide +kernel)
  have hl := lv_entry ([.ref (a 0), .int (zI ((i : Int))), .int (zI ((j : Int)))]) (n := 3) (Nat.le_of_ble_eq_true rfl)
  rw [lg_entry_eq]
  generalize (lg_sl ([.ref (a 0), .int (zI ((i : Int))), .int (zI ((j : Int)))]) ++ List.replicate (3 - (lg_sl ([.ref (a 0), .int (zI ((i : Int))), .int (zI ((j : Int)))])).length) Slot.unset).toArray = ls at hl ⊢
  have hl : lv_has ls 3 [(0, .ref (a 0)), (1, .int (zI ((i : Int)))), (2, .int (zI ((j : Int))))] := hl
  obtain ⟨Q, hQ⟩ : ∃ Q, Q = MQ below (vp_Si (fun r9 => r9 = zI (1 + max (sD S i) (sD S j)))) ([.ref (a 0), .int (zI ((i : Int))), .int (zI ((j : Int)))] : List Value).toArray s 0 0 (fun _ => False) := ⟨_, rfl⟩
  rw [← hQ]
  have hMN := hO.1
  have hMC : 0 ≤ (sC S : Int) ∧ (sC S : Int) ≤ 30 := by have h8 := hO.2.2.2.1; omega
  have hd1 := (hO.2.2.2.2 i hi).2.1
  have hd2 := (hO.2.2.2.2 j hj).2.1
  refine zr_const hx hb dX10_depthOf_0 ?_
  refine lv_aload_n hx hb dX10_depthOf_1 rfl (lv_at hl 0 rfl) ?_
  refine pl_get (ci := 9) (v := .ref (a 7)) (C := RX10) (T := TX10) (N := 13) hx hb hts hi_X10 hown hK hP (hM.2.2.2.2.2.2.2.2.2.2.2.1 0 (by decide)) hM.1 rfl 9 (by decide) hw_0 (fun _ h9 => h9) rfl dX10_depthOf_2 ?_
  refine lv_iload_n hx hb dX10_depthOf_5 rfl (lv_at hl 1 rfl) ?_
  refine pl_iald hx hb hK hP (hM.2.2.2.2.2.2.2.2.2.2.2.1 7 (by decide)) 0 hM.2.2.2.2.2.2.2.1 rfl (i) (by omega) (by omega) (by decide) dX10_depthOf_6 ?_
  refine zr_top (hY.2.2 i hi).2.2.2.2 ?_
  refine lv_aload_n hx hb dX10_depthOf_7 rfl (lv_at hl 0 rfl) ?_
  refine pl_get (ci := 9) (v := .ref (a 7)) (C := RX10) (T := TX10) (N := 13) hx hb hts hi_X10 hown hK hP (hM.2.2.2.2.2.2.2.2.2.2.2.1 0 (by decide)) hM.1 rfl 9 (by decide) hw_0 (fun _ h9 => h9) rfl dX10_depthOf_8 ?_
  refine lv_iload_n hx hb dX10_depthOf_11 rfl (lv_at hl 2 rfl) ?_
  refine pl_iald hx hb hK hP (hM.2.2.2.2.2.2.2.2.2.2.2.1 7 (by decide)) 0 hM.2.2.2.2.2.2.2.1 rfl (j) (by omega) (by omega) (by decide) dX10_depthOf_12 ?_
  refine zr_top (hY.2.2 j hj).2.2.2.2 ?_
  refine zr_icmp_le (tgt := 25) hx hb dX10_depthOf_13 (by decide) (by omega) (by omega) (fun c1 => ?_) (fun c1 => ?_)
  · refine lv_aload_n hx hb dX10_depthOf_25 rfl (lv_at hl 0 rfl) ?_
    refine pl_get (ci := 9) (v := .ref (a 7)) (C := RX10) (T := TX10) (N := 13) hx hb hts hi_X10 hown hK hP (hM.2.2.2.2.2.2.2.2.2.2.2.1 0 (by decide)) hM.1 rfl 9 (by decide) hw_0 (fun _ h9 => h9) rfl dX10_depthOf_26 ?_
    refine lv_iload_n hx hb dX10_depthOf_29 rfl (lv_at hl 2 rfl) ?_
    refine pl_iald hx hb hK hP (hM.2.2.2.2.2.2.2.2.2.2.2.1 7 (by decide)) 0 hM.2.2.2.2.2.2.2.1 rfl (j) (by omega) (by omega) (by decide) dX10_depthOf_30 ?_
    refine zr_top (hY.2.2 j hj).2.2.2.2 ?_
    refine zr_add hx hb dX10_depthOf_31 ?_
    rw [hQ]
    exact rc_iret hx hb hrt (by congr 1; omega) dX10_depthOf_32 hlocks
  · refine lv_aload_n hx hb dX10_depthOf_16 rfl (lv_at hl 0 rfl) ?_
    refine pl_get (ci := 9) (v := .ref (a 7)) (C := RX10) (T := TX10) (N := 13) hx hb hts hi_X10 hown hK hP (hM.2.2.2.2.2.2.2.2.2.2.2.1 0 (by decide)) hM.1 rfl 9 (by decide) hw_0 (fun _ h9 => h9) rfl dX10_depthOf_17 ?_
    refine lv_iload_n hx hb dX10_depthOf_20 rfl (lv_at hl 1 rfl) ?_
    refine pl_iald hx hb hK hP (hM.2.2.2.2.2.2.2.2.2.2.2.1 7 (by decide)) 0 hM.2.2.2.2.2.2.2.1 rfl (i) (by omega) (by omega) (by decide) dX10_depthOf_21 ?_
    refine zr_top (hY.2.2 i hi).2.2.2.2 ?_
    refine lv_goto (tgt := 31) hx hb dX10_depthOf_22 (by decide) ?_
    refine zr_add hx hb dX10_depthOf_31 ?_
    rw [hQ]
    exact rc_iret hx hb hrt (by congr 1; omega) dX10_depthOf_32 hlocks

set_option maxHeartbeats 4000000 in
set_option maxRecDepth 100000 in
theorem kX10_reason_1 (l : Launch) (D : va_G) (k : Nat → ClassId) (L : List Nat) (f : Nat → va_E) (S : SA) (hO : aOK S) (a : Nat → Nat) (tw : Int) (A1 A2 A3 A4 A5 A6 A7 A8 A9 A10 : Nat → Int32) (hM : mRep k L f a tw ((sN S)) ((sC S : Int)) A1 A2 A3 A4 A5 A6 A7 A8 A9 A10) (hMT : 0 ≤ tw ∧ tw ≤ 3) (hY : mSync S A1 A2 A3 A4 A5 A6 A7) (z : Int) (hz : -2147483648 ≤ z ∧ z < 2147483648) (y : Int) (hy : -2147483648 ≤ y ∧ y < 2147483648) (hzy : ¬ ((0 ≤ z ∧ z < (sC S : Int)) ∧ (0 ≤ y ∧ y < (sC S : Int)))) (b9 : Bool) : Met l yX10_reason wsX10_reason ({ frames := 2, cells := 0, slots := 0, locals := 43 } : Room) (va_Pc [.ref (a 0), .int (zI (z)), .int (zI (y)), .int (bI (b9))] (rPre D (tyL k) (va_pl L f))) (vp_Si (fun r9 => r9 = zI 1)) 0 0 (fun _ => False) := by
  refine Met.ofW (cc := cX10_reason) (maxL := 5) (ret := (some .int)) (by decide) rfl ?_
  intro p e s m args below meth c s₁ B hml hv
  obtain ⟨rfl, hP, hC⟩ := hv
  have hK := hC.1
  have hNW := hC.2.1
  have hx := B.exec
  have hb := B.bytes
  have hrt := B.returns
  have hts := atoms_spec (ws := wsX10_reason) B.pre
  have hown : s.vm.findClass RX10 = some m.cls := findClass_of_methodNamed B.named
  have hlocks := B.notSynchronized
  have hl := lv_entry ([.ref (a 0), .int (zI (z)), .int (zI (y)), .int (bI (b9))]) (n := 5) (Nat.le_of_ble_eq_true rfl)
  rw [lg_entry_eq]
  generalize (lg_sl ([.ref (a 0), .int (zI (z)), .int (zI (y)), .int (bI (b9))]) ++ List.replicate (5 - (lg_sl ([.ref (a 0), .int (zI (z)), .int (zI (y)), .int (bI (b9))])).length) Slot.unset).toArray = ls at hl ⊢
  have hl : lv_has ls 5 [(0, .ref (a 0)), (1, .int (zI (z))), (2, .int (zI (y))), (3, .int (bI (b9)))] := hl
  obtain ⟨Q, hQ⟩ : ∃ Q, Q = MQ below (vp_Si (fun r9 => r9 = zI 1)) ([.ref (a 0), .int (zI (z)), .int (zI (y)), .int (bI (b9))] : List Value).toArray s 0 0 (fun _ => False) := ⟨_, rfl⟩
  rw [← hQ]
  have hMN := hO.1
  have hMC : 0 ≤ (sC S : Int) ∧ (sC S : Int) ≤ 30 := by have h8 := hO.2.2.2.1; omega
  refine lv_aload_n hx hb dX10_reason_0 rfl (lv_at hl 0 rfl) ?_
  refine lv_iload_n hx hb dX10_reason_1 rfl (lv_at hl 1 rfl) ?_
  refine vp_callSi (va_Run.run (va_runV (As := [.int (zI (z))]) (rest := []) ⟨hx, hb, hml, hown, hts⟩ (kX10_isNode l D k L f a tw ((sN S)) ((sC S : Int)) A1 A2 A3 A4 A5 A6 A7 A8 A9 A10 hM (by omega) (by omega) (by omega) (z) (by omega)) (cwV 1 hts gX10_reason_X10_isNode rfl rfl rfl (by decide +kernel) ⟨Nat.le_of_ble_eq_true rfl, Nat.le_of_ble_eq_true rfl⟩) (rc_preV hC hP (pl_recv hK hP (hM.2.2.2.2.2.2.2.2.2.2.2.1 0 (by decide)) hM.1 (ci := 9) (q := (RX10, TX10, 13)) rfl)) rfl rfl hl.1 rfl (lv_room (Nat.le_of_ble_eq_true rfl)) dX10_reason_2 ⟨Nat.zero_le _, Nat.zero_le _⟩)) (fun r1 hr1 => ?_)
  subst hr1
  refine zr_ifb_eq (tgt := 20) hx hb dX10_reason_5 (by decide) (fun c2 => ?_) (fun c2 => ?_)
  · have hn_c2 := inB_n c2
    refine zr_const hx hb dX10_reason_20 ?_
    refine zr_top (y := bI false) (by decide) ?_
    refine lv_istore (lv' := [(4, .int (bI (false))), (0, .ref (a 0)), (1, .int (zI (z))), (2, .int (zI (y))), (3, .int (bI (b9)))]) hx hb dX10_reason_21 hl (by decide) rfl (fun ls hl => ?_)
    refine lv_iload hx hb dX10_reason_23 (lv_at hl 0 rfl) ?_
    refine zr_ifb_ne (tgt := 32) hx hb dX10_reason_25 (by decide) (fun c3 => ?_) (fun c3 => ?_)
    · exact absurd c3 (by decide)
    · refine zr_const hx hb dX10_reason_28 ?_
      refine lv_goto (tgt := 65) hx hb dX10_reason_29 (by decide) ?_
      rw [hQ]
      exact rc_iret hx hb hrt (rfl) dX10_reason_65 hlocks
  · have hn_c2 := inB_i c2
    refine lv_aload_n hx hb dX10_reason_8 rfl (lv_at hl 0 rfl) ?_
    refine lv_iload_n hx hb dX10_reason_9 rfl (lv_at hl 2 rfl) ?_
    refine vp_callSi (va_Run.run (va_runV (As := [.int (zI (y))]) (rest := []) ⟨hx, hb, hml, hown, hts⟩ (kX10_isNode l D k L f a tw ((sN S)) ((sC S : Int)) A1 A2 A3 A4 A5 A6 A7 A8 A9 A10 hM (by omega) (by omega) (by omega) (y) (by omega)) (cwV 1 hts gX10_reason_X10_isNode rfl rfl rfl (by decide +kernel) ⟨Nat.le_of_ble_eq_true rfl, Nat.le_of_ble_eq_true rfl⟩) (rc_preV hC hP (pl_recv hK hP (hM.2.2.2.2.2.2.2.2.2.2.2.1 0 (by decide)) hM.1 (ci := 9) (q := (RX10, TX10, 13)) rfl)) rfl rfl hl.1 rfl (lv_room (Nat.le_of_ble_eq_true rfl)) dX10_reason_10 ⟨Nat.zero_le _, Nat.zero_le _⟩)) (fun r4 hr4 => ?_)
    subst hr4
    refine zr_ifb_eq (tgt := 20) hx hb dX10_reason_13 (by decide) (fun c5 => ?_) (fun c5 => ?_)
    · have hn_c5 := inB_n c5
      refine zr_const hx hb dX10_reason_20 ?_
      refine zr_top (y := bI false) (by decide) ?_
      refine lv_istore (lv' := [(4, .int (bI (false))), (0, .ref (a 0)), (1, .int (zI (z))), (2, .int (zI (y))), (3, .int (bI (b9)))]) hx hb dX10_reason_21 hl (by decide) rfl (fun ls hl => ?_)
      refine lv_iload hx hb dX10_reason_23 (lv_at hl 0 rfl) ?_
      refine zr_ifb_ne (tgt := 32) hx hb dX10_reason_25 (by decide) (fun c6 => ?_) (fun c6 => ?_)
      · exact absurd c6 (by decide)
      · refine zr_const hx hb dX10_reason_28 ?_
        refine lv_goto (tgt := 65) hx hb dX10_reason_29 (by decide) ?_
        rw [hQ]
        exact rc_iret hx hb hrt (rfl) dX10_reason_65 hlocks
    · have hn_c5 := inB_i c5
      exfalso; omega

set_option maxHeartbeats 4000000 in
set_option maxRecDepth 100000 in
theorem kX10_reason_2 (l : Launch) (D : va_G) (k : Nat → ClassId) (L : List Nat) (f : Nat → va_E) (S : SA) (hO : aOK S) (a : Nat → Nat) (tw : Int) (A1 A2 A3 A4 A5 A6 A7 A8 A9 A10 : Nat → Int32) (hM : mRep k L f a tw ((sN S)) ((sC S : Int)) A1 A2 A3 A4 A5 A6 A7 A8 A9 A10) (hMT : 0 ≤ tw ∧ tw ≤ 3) (hY : mSync S A1 A2 A3 A4 A5 A6 A7) (i : Nat) (hi : i < sC S) (j : Nat) (hj : j < sC S) (b9 : Bool) (hb9 : b9 = false) : Met l yX10_reason wsX10_reason ({ frames := 2, cells := 0, slots := 0, locals := 43 } : Room) (va_Pc [.ref (a 0), .int (zI ((i : Int))), .int (zI ((j : Int))), .int (bI (b9))] (rPre D (tyL k) (va_pl L f))) (vp_Si (fun r9 => r9 = zI 2)) 0 0 (fun _ => False) := by
  refine Met.ofW (cc := cX10_reason) (maxL := 5) (ret := (some .int)) (by decide) rfl ?_
  intro p e s m args below meth c s₁ B hml hv
  obtain ⟨rfl, hP, hC⟩ := hv
  have hK := hC.1
  have hNW := hC.2.1
  have hx := B.exec
  have hb := B.bytes
  have hrt := B.returns
  have hts := atoms_spec (ws := wsX10_reason) B.pre
  have hown : s.vm.findClass RX10 = some m.cls := findClass_of_methodNamed B.named
  have hlocks := B.notSynchronized
  have hl := lv_entry ([.ref (a 0), .int (zI ((i : Int))), .int (zI ((j : Int))), .int (bI (b9))]) (n := 5) (Nat.le_of_ble_eq_true rfl)
  rw [lg_entry_eq]
  generalize (lg_sl ([.ref (a 0), .int (zI ((i : Int))), .int (zI ((j : Int))), .int (bI (b9))]) ++ List.replicate (5 - (lg_sl ([.ref (a 0), .int (zI ((i : Int))), .int (zI ((j : Int))), .int (bI (b9))])).length) Slot.unset).toArray = ls at hl ⊢
  have hl : lv_has ls 5 [(0, .ref (a 0)), (1, .int (zI ((i : Int)))), (2, .int (zI ((j : Int)))), (3, .int (bI (b9)))] := hl
  obtain ⟨Q, hQ⟩ : ∃ Q, Q = MQ below (vp_Si (fun r9 => r9 = zI 2)) ([.ref (a 0), .int (zI ((i : Int))), .int (zI ((j : Int))), .int (bI (b9))] : List Value).toArray s 0 0 (fun _ => False) := ⟨_, rfl⟩
  rw [← hQ]
  have hMN := hO.1
  have hMC : 0 ≤ (sC S : Int) ∧ (sC S : Int) ≤ 30 := by have h8 := hO.2.2.2.1; omega
  refine lv_aload_n hx hb dX10_reason_0 rfl (lv_at hl 0 rfl) ?_
  refine lv_iload_n hx hb dX10_reason_1 rfl (lv_at hl 1 rfl) ?_
  refine vp_callSi (va_Run.run (va_runV (As := [.int (zI ((i : Int)))]) (rest := []) ⟨hx, hb, hml, hown, hts⟩ (kX10_isNode l D k L f a tw ((sN S)) ((sC S : Int)) A1 A2 A3 A4 A5 A6 A7 A8 A9 A10 hM (by omega) (by omega) (by omega) ((i : Int)) (by omega)) (cwV 1 hts gX10_reason_X10_isNode rfl rfl rfl (by decide +kernel) ⟨Nat.le_of_ble_eq_true rfl, Nat.le_of_ble_eq_true rfl⟩) (rc_preV hC hP (pl_recv hK hP (hM.2.2.2.2.2.2.2.2.2.2.2.1 0 (by decide)) hM.1 (ci := 9) (q := (RX10, TX10, 13)) rfl)) rfl rfl hl.1 rfl (lv_room (Nat.le_of_ble_eq_true rfl)) dX10_reason_2 ⟨Nat.zero_le _, Nat.zero_le _⟩)) (fun r1 hr1 => ?_)
  subst hr1
  refine zr_ifb_eq (tgt := 20) hx hb dX10_reason_5 (by decide) (fun c2 => ?_) (fun c2 => ?_)
  · have hn_c2 := inB_n c2
    exfalso; omega
  · have hn_c2 := inB_i c2
    refine lv_aload_n hx hb dX10_reason_8 rfl (lv_at hl 0 rfl) ?_
    refine lv_iload_n hx hb dX10_reason_9 rfl (lv_at hl 2 rfl) ?_
    refine vp_callSi (va_Run.run (va_runV (As := [.int (zI ((j : Int)))]) (rest := []) ⟨hx, hb, hml, hown, hts⟩ (kX10_isNode l D k L f a tw ((sN S)) ((sC S : Int)) A1 A2 A3 A4 A5 A6 A7 A8 A9 A10 hM (by omega) (by omega) (by omega) ((j : Int)) (by omega)) (cwV 1 hts gX10_reason_X10_isNode rfl rfl rfl (by decide +kernel) ⟨Nat.le_of_ble_eq_true rfl, Nat.le_of_ble_eq_true rfl⟩) (rc_preV hC hP (pl_recv hK hP (hM.2.2.2.2.2.2.2.2.2.2.2.1 0 (by decide)) hM.1 (ci := 9) (q := (RX10, TX10, 13)) rfl)) rfl rfl hl.1 rfl (lv_room (Nat.le_of_ble_eq_true rfl)) dX10_reason_10 ⟨Nat.zero_le _, Nat.zero_le _⟩)) (fun r3 hr3 => ?_)
    subst hr3
    refine zr_ifb_eq (tgt := 20) hx hb dX10_reason_13 (by decide) (fun c4 => ?_) (fun c4 => ?_)
    · have hn_c4 := inB_n c4
      exfalso; omega
    · have hn_c4 := inB_i c4
      refine zr_const hx hb dX10_reason_16 ?_
      refine lv_goto (tgt := 21) hx hb dX10_reason_17 (by decide) ?_
      refine zr_top (y := bI true) (by decide) ?_
      refine lv_istore (lv' := [(4, .int (bI (true))), (0, .ref (a 0)), (1, .int (zI ((i : Int)))), (2, .int (zI ((j : Int)))), (3, .int (bI (b9)))]) hx hb dX10_reason_21 hl (by decide) rfl (fun ls hl => ?_)
      refine lv_iload hx hb dX10_reason_23 (lv_at hl 0 rfl) ?_
      refine zr_ifb_ne (tgt := 32) hx hb dX10_reason_25 (by decide) (fun c5 => ?_) (fun c5 => ?_)
      · refine lv_iload_n hx hb dX10_reason_32 rfl (lv_at hl 4 rfl) ?_
        refine zr_ifb_ne (tgt := 40) hx hb dX10_reason_33 (by decide) (fun c6 => ?_) (fun c6 => ?_)
        · exact (b_tf c6 hb9).elim
        · refine zr_const hx hb dX10_reason_36 ?_
          refine lv_goto (tgt := 65) hx hb dX10_reason_37 (by decide) ?_
          rw [hQ]
          exact rc_iret hx hb hrt (rfl) dX10_reason_65 hlocks
      · exact absurd c5 (by decide)

set_option maxHeartbeats 4000000 in
set_option maxRecDepth 100000 in
theorem kX10_reason_3 (l : Launch) (D : va_G) (k : Nat → ClassId) (L : List Nat) (f : Nat → va_E) (S : SA) (hO : aOK S) (a : Nat → Nat) (tw : Int) (A1 A2 A3 A4 A5 A6 A7 A8 A9 A10 : Nat → Int32) (hM : mRep k L f a tw ((sN S)) ((sC S : Int)) A1 A2 A3 A4 A5 A6 A7 A8 A9 A10) (hMT : 0 ≤ tw ∧ tw ≤ 3) (hY : mSync S A1 A2 A3 A4 A5 A6 A7) (i : Nat) (hi : i < sC S) (j : Nat) (hj : j < sC S) (b9 : Bool) (hb9 : b9 = true) (h3 : sC S = 30 ∨ 6 < 1 + max (sD S i) (sD S j)) : Met l yX10_reason wsX10_reason ({ frames := 2, cells := 0, slots := 0, locals := 43 } : Room) (va_Pc [.ref (a 0), .int (zI ((i : Int))), .int (zI ((j : Int))), .int (bI (b9))] (rPre D (tyL k) (va_pl L f))) (vp_Si (fun r9 => r9 = zI 3)) 0 0 (fun _ => False) := by
  refine Met.ofW (cc := cX10_reason) (maxL := 5) (ret := (some .int)) (by decide) rfl ?_
  intro p e s m args below meth c s₁ B hml hv
  obtain ⟨rfl, hP, hC⟩ := hv
  have hK := hC.1
  have hNW := hC.2.1
  have hx := B.exec
  have hb := B.bytes
  have hrt := B.returns
  have hts := atoms_spec (ws := wsX10_reason) B.pre
  have hown : s.vm.findClass RX10 = some m.cls := findClass_of_methodNamed B.named
  have hlocks := B.notSynchronized
  have hi_X10 : ∀ w ∈ u_ws RX10 TX10 13, w ∈ wsX10_reason := by decide +kernel
  have hw_0 := hts (.fieldLink RX10 49 "RegionryModel" "nodes" "I") (by decide +kernel)
  have hl := lv_entry ([.ref (a 0), .int (zI ((i : Int))), .int (zI ((j : Int))), .int (bI (b9))]) (n := 5) (Nat.le_of_ble_eq_true rfl)
  rw [lg_entry_eq]
  generalize (lg_sl ([.ref (a 0), .int (zI ((i : Int))), .int (zI ((j : Int))), .int (bI (b9))]) ++ List.replicate (5 - (lg_sl ([.ref (a 0), .int (zI ((i : Int))), .int (zI ((j : Int))), .int (bI (b9))])).length) Slot.unset).toArray = ls at hl ⊢
  have hl : lv_has ls 5 [(0, .ref (a 0)), (1, .int (zI ((i : Int)))), (2, .int (zI ((j : Int)))), (3, .int (bI (b9)))] := hl
  obtain ⟨Q, hQ⟩ : ∃ Q, Q = MQ below (vp_Si (fun r9 => r9 = zI 3)) ([.ref (a 0), .int (zI ((i : Int))), .int (zI ((j : Int))), .int (bI (b9))] : List Value).toArray s 0 0 (fun _ => False) := ⟨_, rfl⟩
  rw [← hQ]
  have hMN := hO.1
  have hMC : 0 ≤ (sC S : Int) ∧ (sC S : Int) ≤ 30 := by have h8 := hO.2.2.2.1; omega
  have hd1 := (hO.2.2.2.2 i hi).2.1
  have hd2 := (hO.2.2.2.2 j hj).2.1
  refine lv_aload_n hx hb dX10_reason_0 rfl (lv_at hl 0 rfl) ?_
  refine lv_iload_n hx hb dX10_reason_1 rfl (lv_at hl 1 rfl) ?_
  refine vp_callSi (va_Run.run (va_runV (As := [.int (zI ((i : Int)))]) (rest := []) ⟨hx, hb, hml, hown, hts⟩ (kX10_isNode l D k L f a tw ((sN S)) ((sC S : Int)) A1 A2 A3 A4 A5 A6 A7 A8 A9 A10 hM (by omega) (by omega) (by omega) ((i : Int)) (by omega)) (cwV 1 hts gX10_reason_X10_isNode rfl rfl rfl (by decide +kernel) ⟨Nat.le_of_ble_eq_true rfl, Nat.le_of_ble_eq_true rfl⟩) (rc_preV hC hP (pl_recv hK hP (hM.2.2.2.2.2.2.2.2.2.2.2.1 0 (by decide)) hM.1 (ci := 9) (q := (RX10, TX10, 13)) rfl)) rfl rfl hl.1 rfl (lv_room (Nat.le_of_ble_eq_true rfl)) dX10_reason_2 ⟨Nat.zero_le _, Nat.zero_le _⟩)) (fun r1 hr1 => ?_)
  subst hr1
  refine zr_ifb_eq (tgt := 20) hx hb dX10_reason_5 (by decide) (fun c2 => ?_) (fun c2 => ?_)
  · have hn_c2 := inB_n c2
    exfalso; omega
  · have hn_c2 := inB_i c2
    refine lv_aload_n hx hb dX10_reason_8 rfl (lv_at hl 0 rfl) ?_
    refine lv_iload_n hx hb dX10_reason_9 rfl (lv_at hl 2 rfl) ?_
    refine vp_callSi (va_Run.run (va_runV (As := [.int (zI ((j : Int)))]) (rest := []) ⟨hx, hb, hml, hown, hts⟩ (kX10_isNode l D k L f a tw ((sN S)) ((sC S : Int)) A1 A2 A3 A4 A5 A6 A7 A8 A9 A10 hM (by omega) (by omega) (by omega) ((j : Int)) (by omega)) (cwV 1 hts gX10_reason_X10_isNode rfl rfl rfl (by decide +kernel) ⟨Nat.le_of_ble_eq_true rfl, Nat.le_of_ble_eq_true rfl⟩) (rc_preV hC hP (pl_recv hK hP (hM.2.2.2.2.2.2.2.2.2.2.2.1 0 (by decide)) hM.1 (ci := 9) (q := (RX10, TX10, 13)) rfl)) rfl rfl hl.1 rfl (lv_room (Nat.le_of_ble_eq_true rfl)) dX10_reason_10 ⟨Nat.zero_le _, Nat.zero_le _⟩)) (fun r3 hr3 => ?_)
    subst hr3
    refine zr_ifb_eq (tgt := 20) hx hb dX10_reason_13 (by decide) (fun c4 => ?_) (fun c4 => ?_)
    · have hn_c4 := inB_n c4
      exfalso; omega
    · have hn_c4 := inB_i c4
      refine zr_const hx hb dX10_reason_16 ?_
      refine lv_goto (tgt := 21) hx hb dX10_reason_17 (by decide) ?_
      refine zr_top (y := bI true) (by decide) ?_
      refine lv_istore (lv' := [(4, .int (bI (true))), (0, .ref (a 0)), (1, .int (zI ((i : Int)))), (2, .int (zI ((j : Int)))), (3, .int (bI (b9)))]) hx hb dX10_reason_21 hl (by decide) rfl (fun ls hl => ?_)
      refine lv_iload hx hb dX10_reason_23 (lv_at hl 0 rfl) ?_
      refine zr_ifb_ne (tgt := 32) hx hb dX10_reason_25 (by decide) (fun c5 => ?_) (fun c5 => ?_)
      · refine lv_iload_n hx hb dX10_reason_32 rfl (lv_at hl 4 rfl) ?_
        refine zr_ifb_ne (tgt := 40) hx hb dX10_reason_33 (by decide) (fun c6 => ?_) (fun c6 => ?_)
        · refine lv_aload_n hx hb dX10_reason_40 rfl (lv_at hl 1 rfl) ?_
          refine pl_get (ci := 9) (v := .int (zI ((sC S : Int)))) (C := RX10) (T := TX10) (N := 13) hx hb hts hi_X10 hown hK hP (hM.2.2.2.2.2.2.2.2.2.2.2.1 0 (by decide)) hM.1 rfl 4 (by decide) hw_0 (fun _ h9 => h9) rfl dX10_reason_41 ?_
          refine zr_bipush hx hb dX10_reason_44 (by decide) ?_
          refine zr_icmp_eq (tgt := 60) hx hb dX10_reason_46 (by decide) (by omega) (by omega) (fun c7 => ?_) (fun c7 => ?_)
          · refine zr_const hx hb dX10_reason_60 ?_
            refine lv_goto (tgt := 65) hx hb dX10_reason_61 (by decide) ?_
            rw [hQ]
            exact rc_iret hx hb hrt (rfl) dX10_reason_65 hlocks
          · refine lv_aload_n hx hb dX10_reason_49 rfl (lv_at hl 1 rfl) ?_
            refine lv_iload_n hx hb dX10_reason_50 rfl (lv_at hl 2 rfl) ?_
            refine lv_iload_n hx hb dX10_reason_51 rfl (lv_at hl 3 rfl) ?_
            refine vp_callSi (va_Run.run (va_runV (As := [.int (zI ((i : Int))), .int (zI ((j : Int)))]) (rest := []) ⟨hx, hb, hml, hown, hts⟩ (kX10_depthOf l D k L f S hO a tw A1 A2 A3 A4 A5 A6 A7 A8 A9 A10 hM (by omega) hY i hi j hj) (cwV 2 hts gX10_reason_X10_depthOf rfl rfl rfl (by decide +kernel) ⟨Nat.le_of_ble_eq_true rfl, Nat.le_of_ble_eq_true rfl⟩) (rc_preV hC hP (pl_recv hK hP (hM.2.2.2.2.2.2.2.2.2.2.2.1 0 (by decide)) hM.1 (ci := 9) (q := (RX10, TX10, 13)) rfl)) rfl rfl hl.1 rfl (lv_room (Nat.le_of_ble_eq_true rfl)) dX10_reason_52 ⟨Nat.zero_le _, Nat.zero_le _⟩)) (fun r8 hr8 => ?_)
            subst hr8
            refine zr_bipush hx hb dX10_reason_55 (by decide) ?_
            refine zr_icmp_le (tgt := 64) hx hb dX10_reason_57 (by decide) (by omega) (by omega) (fun c9 => ?_) (fun c9 => ?_)
            · exfalso; omega
            · refine zr_const hx hb dX10_reason_60 ?_
              refine lv_goto (tgt := 65) hx hb dX10_reason_61 (by decide) ?_
              rw [hQ]
              exact rc_iret hx hb hrt (rfl) dX10_reason_65 hlocks
        · exact (b_tf hb9 c6).elim
      · exact absurd c5 (by decide)

set_option maxHeartbeats 4000000 in
set_option maxRecDepth 100000 in
theorem kX10_reason_0 (l : Launch) (D : va_G) (k : Nat → ClassId) (L : List Nat) (f : Nat → va_E) (S : SA) (hO : aOK S) (a : Nat → Nat) (tw : Int) (A1 A2 A3 A4 A5 A6 A7 A8 A9 A10 : Nat → Int32) (hM : mRep k L f a tw ((sN S)) ((sC S : Int)) A1 A2 A3 A4 A5 A6 A7 A8 A9 A10) (hMT : 0 ≤ tw ∧ tw ≤ 3) (hY : mSync S A1 A2 A3 A4 A5 A6 A7) (i : Nat) (hi : i < sC S) (j : Nat) (hj : j < sC S) (b9 : Bool) (hb9 : b9 = true) (hc : sC S < 30) (hdp : 1 + max (sD S i) (sD S j) ≤ 6) : Met l yX10_reason wsX10_reason ({ frames := 2, cells := 0, slots := 0, locals := 43 } : Room) (va_Pc [.ref (a 0), .int (zI ((i : Int))), .int (zI ((j : Int))), .int (bI (b9))] (rPre D (tyL k) (va_pl L f))) (vp_Si (fun r9 => r9 = zI 0)) 0 0 (fun _ => False) := by
  refine Met.ofW (cc := cX10_reason) (maxL := 5) (ret := (some .int)) (by decide) rfl ?_
  intro p e s m args below meth c s₁ B hml hv
  obtain ⟨rfl, hP, hC⟩ := hv
  have hK := hC.1
  have hNW := hC.2.1
  have hx := B.exec
  have hb := B.bytes
  have hrt := B.returns
  have hts := atoms_spec (ws := wsX10_reason) B.pre
  have hown : s.vm.findClass RX10 = some m.cls := findClass_of_methodNamed B.named
  have hlocks := B.notSynchronized
  have hi_X10 : ∀ w ∈ u_ws RX10 TX10 13, w ∈ wsX10_reason := by decide +kernel
  have hw_0 := hts (.fieldLink RX10 49 "RegionryModel" "nodes" "I") (by decide +kernel)
  have hl := lv_entry ([.ref (a 0), .int (zI ((i : Int))), .int (zI ((j : Int))), .int (bI (b9))]) (n := 5) (Nat.le_of_ble_eq_true rfl)
  rw [lg_entry_eq]
  generalize (lg_sl ([.ref (a 0), .int (zI ((i : Int))), .int (zI ((j : Int))), .int (bI (b9))]) ++ List.replicate (5 - (lg_sl ([.ref (a 0), .int (zI ((i : Int))), .int (zI ((j : Int))), .int (bI (b9))])).length) Slot.unset).toArray = ls at hl ⊢
  have hl : lv_has ls 5 [(0, .ref (a 0)), (1, .int (zI ((i : Int)))), (2, .int (zI ((j : Int)))), (3, .int (bI (b9)))] := hl
  obtain ⟨Q, hQ⟩ : ∃ Q, Q = MQ below (vp_Si (fun r9 => r9 = zI 0)) ([.ref (a 0), .int (zI ((i : Int))), .int (zI ((j : Int))), .int (bI (b9))] : List Value).toArray s 0 0 (fun _ => False) := ⟨_, rfl⟩
  rw [← hQ]
  have hMN := hO.1
  have hMC : 0 ≤ (sC S : Int) ∧ (sC S : Int) ≤ 30 := by have h8 := hO.2.2.2.1; omega
  have hd1 := (hO.2.2.2.2 i hi).2.1
  have hd2 := (hO.2.2.2.2 j hj).2.1
  refine lv_aload_n hx hb dX10_reason_0 rfl (lv_at hl 0 rfl) ?_
  refine lv_iload_n hx hb dX10_reason_1 rfl (lv_at hl 1 rfl) ?_
  refine vp_callSi (va_Run.run (va_runV (As := [.int (zI ((i : Int)))]) (rest := []) ⟨hx, hb, hml, hown, hts⟩ (kX10_isNode l D k L f a tw ((sN S)) ((sC S : Int)) A1 A2 A3 A4 A5 A6 A7 A8 A9 A10 hM (by omega) (by omega) (by omega) ((i : Int)) (by omega)) (cwV 1 hts gX10_reason_X10_isNode rfl rfl rfl (by decide +kernel) ⟨Nat.le_of_ble_eq_true rfl, Nat.le_of_ble_eq_true rfl⟩) (rc_preV hC hP (pl_recv hK hP (hM.2.2.2.2.2.2.2.2.2.2.2.1 0 (by decide)) hM.1 (ci := 9) (q := (RX10, TX10, 13)) rfl)) rfl rfl hl.1 rfl (lv_room (Nat.le_of_ble_eq_true rfl)) dX10_reason_2 ⟨Nat.zero_le _, Nat.zero_le _⟩)) (fun r1 hr1 => ?_)
  subst hr1
  refine zr_ifb_eq (tgt := 20) hx hb dX10_reason_5 (by decide) (fun c2 => ?_) (fun c2 => ?_)
  · have hn_c2 := inB_n c2
    exfalso; omega
  · have hn_c2 := inB_i c2
    refine lv_aload_n hx hb dX10_reason_8 rfl (lv_at hl 0 rfl) ?_
    refine lv_iload_n hx hb dX10_reason_9 rfl (lv_at hl 2 rfl) ?_
    refine vp_callSi (va_Run.run (va_runV (As := [.int (zI ((j : Int)))]) (rest := []) ⟨hx, hb, hml, hown, hts⟩ (kX10_isNode l D k L f a tw ((sN S)) ((sC S : Int)) A1 A2 A3 A4 A5 A6 A7 A8 A9 A10 hM (by omega) (by omega) (by omega) ((j : Int)) (by omega)) (cwV 1 hts gX10_reason_X10_isNode rfl rfl rfl (by decide +kernel) ⟨Nat.le_of_ble_eq_true rfl, Nat.le_of_ble_eq_true rfl⟩) (rc_preV hC hP (pl_recv hK hP (hM.2.2.2.2.2.2.2.2.2.2.2.1 0 (by decide)) hM.1 (ci := 9) (q := (RX10, TX10, 13)) rfl)) rfl rfl hl.1 rfl (lv_room (Nat.le_of_ble_eq_true rfl)) dX10_reason_10 ⟨Nat.zero_le _, Nat.zero_le _⟩)) (fun r3 hr3 => ?_)
    subst hr3
    refine zr_ifb_eq (tgt := 20) hx hb dX10_reason_13 (by decide) (fun c4 => ?_) (fun c4 => ?_)
    · have hn_c4 := inB_n c4
      exfalso; omega
    · have hn_c4 := inB_i c4
      refine zr_const hx hb dX10_reason_16 ?_
      refine lv_goto (tgt := 21) hx hb dX10_reason_17 (by decide) ?_
      refine zr_top (y := bI true) (by decide) ?_
      refine lv_istore (lv' := [(4, .int (bI (true))), (0, .ref (a 0)), (1, .int (zI ((i : Int)))), (2, .int (zI ((j : Int)))), (3, .int (bI (b9)))]) hx hb dX10_reason_21 hl (by decide) rfl (fun ls hl => ?_)
      refine lv_iload hx hb dX10_reason_23 (lv_at hl 0 rfl) ?_
      refine zr_ifb_ne (tgt := 32) hx hb dX10_reason_25 (by decide) (fun c5 => ?_) (fun c5 => ?_)
      · refine lv_iload_n hx hb dX10_reason_32 rfl (lv_at hl 4 rfl) ?_
        refine zr_ifb_ne (tgt := 40) hx hb dX10_reason_33 (by decide) (fun c6 => ?_) (fun c6 => ?_)
        · refine lv_aload_n hx hb dX10_reason_40 rfl (lv_at hl 1 rfl) ?_
          refine pl_get (ci := 9) (v := .int (zI ((sC S : Int)))) (C := RX10) (T := TX10) (N := 13) hx hb hts hi_X10 hown hK hP (hM.2.2.2.2.2.2.2.2.2.2.2.1 0 (by decide)) hM.1 rfl 4 (by decide) hw_0 (fun _ h9 => h9) rfl dX10_reason_41 ?_
          refine zr_bipush hx hb dX10_reason_44 (by decide) ?_
          refine zr_icmp_eq (tgt := 60) hx hb dX10_reason_46 (by decide) (by omega) (by omega) (fun c7 => ?_) (fun c7 => ?_)
          · exfalso; omega
          · refine lv_aload_n hx hb dX10_reason_49 rfl (lv_at hl 1 rfl) ?_
            refine lv_iload_n hx hb dX10_reason_50 rfl (lv_at hl 2 rfl) ?_
            refine lv_iload_n hx hb dX10_reason_51 rfl (lv_at hl 3 rfl) ?_
            refine vp_callSi (va_Run.run (va_runV (As := [.int (zI ((i : Int))), .int (zI ((j : Int)))]) (rest := []) ⟨hx, hb, hml, hown, hts⟩ (kX10_depthOf l D k L f S hO a tw A1 A2 A3 A4 A5 A6 A7 A8 A9 A10 hM (by omega) hY i hi j hj) (cwV 2 hts gX10_reason_X10_depthOf rfl rfl rfl (by decide +kernel) ⟨Nat.le_of_ble_eq_true rfl, Nat.le_of_ble_eq_true rfl⟩) (rc_preV hC hP (pl_recv hK hP (hM.2.2.2.2.2.2.2.2.2.2.2.1 0 (by decide)) hM.1 (ci := 9) (q := (RX10, TX10, 13)) rfl)) rfl rfl hl.1 rfl (lv_room (Nat.le_of_ble_eq_true rfl)) dX10_reason_52 ⟨Nat.zero_le _, Nat.zero_le _⟩)) (fun r8 hr8 => ?_)
            subst hr8
            refine zr_bipush hx hb dX10_reason_55 (by decide) ?_
            refine zr_icmp_le (tgt := 64) hx hb dX10_reason_57 (by decide) (by omega) (by omega) (fun c9 => ?_) (fun c9 => ?_)
            · refine zr_const hx hb dX10_reason_64 ?_
              rw [hQ]
              exact rc_iret hx hb hrt (rfl) dX10_reason_65 hlocks
            · exfalso; omega
        · exact (b_tf hb9 c6).elim
      · exact absurd c5 (by decide)

set_option maxHeartbeats 4000000 in
set_option maxRecDepth 100000 in
theorem kX10_pair (l : Launch) (D : va_G) (k : Nat → ClassId) (L : List Nat) (f : Nat → va_E) (S : SA) (hO : aOK S) (a : Nat → Nat) (tw : Int) (A1 A2 A3 A4 A5 A6 A7 A8 A9 A10 : Nat → Int32) (hM : mRep k L f a tw ((sN S)) ((sC S : Int)) A1 A2 A3 A4 A5 A6 A7 A8 A9 A10) (hMT : 0 ≤ tw ∧ tw ≤ 3) (hY : mSync S A1 A2 A3 A4 A5 A6 A7) (w9 : Nat) (hw9 : w9 ≤ 9) (i : Nat) (hi : i < sC S) (j : Nat) (hj : j < sC S) (hc : sC S < 30) (hdp : 1 + max (sD S i) (sD S j) ≤ 6) (n0 sz : Nat) : Met l yX10_pair wsX10_pair ({ frames := 3, cells := 0, slots := 0, locals := 67 } : Room) (va_Pc [.ref (a 0), .int (zI ((w9 : Int))), .int (zI ((i : Int))), .int (zI ((j : Int)))] (pPre D (tyL k) n0 (va_pl L f) sz)) (va_Qi (fun r9 u => r9 = zI (sC S : Int) ∧ ∃ (F : Nat → va_E) (B3 B4 B5 B6 B7 : Nat → Int32), u = va_pl L F ∧ mRep k L F a 0 ((sN S)) (((sC S + 1 : Nat) : Int)) A1 A2 B3 B4 B5 B6 B7 A8 A9 A10 ∧ mSync (addS S w9 i j 0 (1 + max (sD S i) (sD S j))) A1 A2 B3 B4 B5 B6 B7) (pB D (va_pl L f) sz) (va_A (va_pl L f) sz)) 0 0 (va_A (va_pl L f) sz) := by
  refine Met.ofW (cc := cX10_pair) (maxL := 4) (ret := (some .int)) (by decide) rfl ?_
  intro p e s m args below meth c s₁ B hml hv
  obtain ⟨rfl, hsz, hn9, hP, hC, hD0⟩ := hv
  have hK := hC.1
  have hNW := hC.2.1
  have hx := B.exec
  have hb := B.bytes
  have hrt := B.returns
  have hts := atoms_spec (ws := wsX10_pair) B.pre
  have hown : s.vm.findClass RX10 = some m.cls := findClass_of_methodNamed B.named
  have hlocks := B.notSynchronized
  subst hsz
  obtain ⟨A, hAd⟩ : ∃ A, A = va_A (va_pl L f) s.heap.size := ⟨_, rfl⟩
  have hD := hD0.self (sz := s.heap.size)
  rw [← hAd] at hD
  have hA : ∀ q : Nat, s.heap.size ≤ q → A q := fun q h => by rw [hAd]; exact Or.inr h
  have hAn : ∀ q : Nat, A q → n0 ≤ q := fun q h => by
    rw [hAd] at h
    rcases h with ⟨k9, e9, hk9⟩ | h
    · exact hD0.2 k9 _ hk9
    · exact Nat.le_trans hn9 h
  have hS : va_S A s.heap s.heap [] := va_S.rf
  have hl := lv_entry ([.ref (a 0), .int (zI ((w9 : Int))), .int (zI ((i : Int))), .int (zI ((j : Int)))]) (n := 4) (Nat.le_of_ble_eq_true rfl)
  rw [lg_entry_eq]
  generalize (lg_sl ([.ref (a 0), .int (zI ((w9 : Int))), .int (zI ((i : Int))), .int (zI ((j : Int)))]) ++ List.replicate (4 - (lg_sl ([.ref (a 0), .int (zI ((w9 : Int))), .int (zI ((i : Int))), .int (zI ((j : Int)))])).length) Slot.unset).toArray = ls at hl ⊢
  have hl : lv_has ls 4 [(0, .ref (a 0)), (1, .int (zI ((w9 : Int)))), (2, .int (zI ((i : Int)))), (3, .int (zI ((j : Int))))] := hl
  obtain ⟨Q, hQ⟩ : ∃ Q, Q = MQ below (va_Qi (fun r9 u => r9 = zI (sC S : Int) ∧ ∃ (F : Nat → va_E) (B3 B4 B5 B6 B7 : Nat → Int32), u = va_pl L F ∧ mRep k L F a 0 ((sN S)) (((sC S + 1 : Nat) : Int)) A1 A2 B3 B4 B5 B6 B7 A8 A9 A10 ∧ mSync (addS S w9 i j 0 (1 + max (sD S i) (sD S j))) A1 A2 B3 B4 B5 B6 B7) (pB D (va_pl L f) s.heap.size) (va_A (va_pl L f) s.heap.size)) ([.ref (a 0), .int (zI ((w9 : Int))), .int (zI ((i : Int))), .int (zI ((j : Int)))] : List Value).toArray s 0 0 (va_A (va_pl L f) s.heap.size) := ⟨_, rfl⟩
  rw [← hQ]
  have hMN := hO.1
  have hMC : 0 ≤ (sC S : Int) ∧ (sC S : Int) ≤ 30 := by have h8 := hO.2.2.2.1; omega
  have hd1 := (hO.2.2.2.2 i hi).2.1
  have hd2 := (hO.2.2.2.2 j hj).2.1
  refine lv_aload_n hx hb dX10_pair_0 rfl (lv_at hl 0 rfl) ?_
  refine lv_aload_n hx hb dX10_pair_1 rfl (lv_at hl 0 rfl) ?_
  refine lv_iload_n hx hb dX10_pair_2 rfl (lv_at hl 2 rfl) ?_
  refine lv_iload_n hx hb dX10_pair_3 rfl (lv_at hl 3 rfl) ?_
  refine lv_iload_n hx hb dX10_pair_4 rfl (lv_at hl 1 rfl) ?_
  refine zr_const hx hb dX10_pair_5 ?_
  refine zr_bipush hx hb dX10_pair_6 (by decide) ?_
  refine vp_callSi (va_Run.run (va_runS (As := [.int (zI ((w9 : Int))), .int (zI (0)), .int (zI (9))]) (rest := [.int (zI ((j : Int))), .int (zI ((i : Int))), .ref (a 0), .ref (a 0)]) ⟨hx, hb, hml, hown, hts⟩ (kX10_in l D k L f ((w9 : Int)) (by omega) (0) (by omega) (9) (by omega)) (va_cwS 3 hts gX10_pair_X10_in rfl rfl rfl (by decide +kernel) ⟨Nat.le_of_ble_eq_true rfl, Nat.le_of_ble_eq_true rfl⟩) (rc_preS hC hP) rfl rfl hl.1 rfl (lv_room (Nat.le_of_ble_eq_true rfl)) dX10_pair_8 ⟨Nat.zero_le _, Nat.zero_le _⟩)) (fun r1 hr1 => ?_)
  subst hr1
  refine vp_callSi (va_Run.run (va_runV (As := [.int (zI ((i : Int))), .int (zI ((j : Int))), .int (bI (inB ((w9 : Int)) 0 9))]) (rest := [.ref (a 0)]) ⟨hx, hb, hml, hown, hts⟩ (kX10_reason_0 l D k L f S hO a tw A1 A2 A3 A4 A5 A6 A7 A8 A9 A10 hM (by omega) hY i hi j hj (inB ((w9 : Int)) 0 9) (inB_t (by omega)) hc hdp) (cwV 3 hts gX10_pair_X10_reason rfl rfl rfl (by decide +kernel) ⟨Nat.le_of_ble_eq_true rfl, Nat.le_of_ble_eq_true rfl⟩) (rc_preV hC hP (pl_recv hK hP (hM.2.2.2.2.2.2.2.2.2.2.2.1 0 (by decide)) hM.1 (ci := 9) (q := (RX10, TX10, 13)) rfl)) rfl rfl hl.1 rfl (lv_room (Nat.le_of_ble_eq_true rfl)) dX10_pair_11 ⟨Nat.zero_le _, Nat.zero_le _⟩)) (fun r2 hr2 => ?_)
  subst hr2
  refine pc_calli (va_runV (As := [.int (zI (0))]) (rest := []) ⟨hx, hb, hml, hown, hts⟩ (kX10_goesWell l D k L f a tw ((sN S)) ((sC S : Int)) A1 A2 A3 A4 A5 A6 A7 A8 A9 A10 hM (by omega) (by omega) (by omega) (0) (by omega) n0 _) (cwV 1 hts gX10_pair_X10_goesWell rfl rfl rfl (by decide +kernel) ⟨Nat.le_of_ble_eq_true rfl, Nat.le_of_ble_eq_true rfl⟩) (pc_preV hC hP (Nat.le_trans hn9 hS.1) hD hAn (pl_recv hK hP (hM.2.2.2.2.2.2.2.2.2.2.2.1 0 (by decide)) hM.1 (ci := 9) (q := (RX10, TX10, 13)) rfl)) rfl rfl hl.1 rfl (lv_room (Nat.le_of_ble_eq_true rfl)) dX10_pair_14 ⟨Nat.zero_le _, Nat.zero_le _⟩) hD hS hA (fun r3 ur3 H locs hr3 hP hD hS hzr3 => ?_)
  obtain ⟨hvr3, Fr3, hwr3, hMr3⟩ := hr3
  have hvr3 : r3 = bI (decide ((0 : Int) = 0)) := hvr3
  subst hvr3
  have hwr3 : ur3 = va_pl L Fr3 := hwr3
  subst hwr3
  refine zr_ifb_eq (tgt := 37) hx hb dX10_pair_17 (by decide) (fun c4 => ?_) (fun c4 => ?_)
  · exact absurd c4 (by decide)
  · refine lv_aload_n hx hb dX10_pair_20 rfl (lv_at hl 0 rfl) ?_
    refine lv_iload_n hx hb dX10_pair_21 rfl (lv_at hl 1 rfl) ?_
    refine lv_iload_n hx hb dX10_pair_22 rfl (lv_at hl 2 rfl) ?_
    refine lv_iload_n hx hb dX10_pair_23 rfl (lv_at hl 3 rfl) ?_
    refine zr_const hx hb dX10_pair_24 ?_
    refine lv_aload_n hx hb dX10_pair_25 rfl (lv_at hl 0 rfl) ?_
    refine lv_iload_n hx hb dX10_pair_26 rfl (lv_at hl 2 rfl) ?_
    refine lv_iload_n hx hb dX10_pair_27 rfl (lv_at hl 3 rfl) ?_
    refine vp_callSi (va_Run.run (va_runV (As := [.int (zI ((i : Int))), .int (zI ((j : Int)))]) (rest := [.int (zI (0)), .int (zI ((j : Int))), .int (zI ((i : Int))), .int (zI ((w9 : Int))), .ref (a 0)]) ⟨hx, hb, hml, hown, hts⟩ (kX10_depthOf l D k L Fr3 S hO a 0 A1 A2 A3 A4 A5 A6 A7 A8 A9 A10 hMr3 (by omega) hY i hi j hj) (cwV 2 hts gX10_pair_X10_depthOf rfl rfl rfl (by decide +kernel) ⟨Nat.le_of_ble_eq_true rfl, Nat.le_of_ble_eq_true rfl⟩) (rc_preV hC hP (pl_recv hK hP (hMr3.2.2.2.2.2.2.2.2.2.2.2.1 0 (by decide)) hMr3.1 (ci := 9) (q := (RX10, TX10, 13)) rfl)) rfl rfl hl.1 rfl (lv_room (Nat.le_of_ble_eq_true rfl)) dX10_pair_28 ⟨Nat.zero_le _, Nat.zero_le _⟩)) (fun r5 hr5 => ?_)
    subst hr5
    refine pc_calli (va_runV (As := [.int (zI ((w9 : Int))), .int (zI ((i : Int))), .int (zI ((j : Int))), .int (zI (0)), .int (zI (1 + max (sD S i) (sD S j)))]) (rest := []) ⟨hx, hb, hml, hown, hts⟩ (kX10_make l D k L Fr3 S hO a 0 A1 A2 A3 A4 A5 A6 A7 A8 A9 A10 hMr3 (by omega) hY ((w9 : Int)) ((i : Int)) ((j : Int)) 0 (1 + max (sD S i) (sD S j)) (by omega) n0 _) (cwV 5 hts gX10_pair_X10_make rfl rfl rfl (by decide +kernel) ⟨Nat.le_of_ble_eq_true rfl, Nat.le_of_ble_eq_true rfl⟩) (pc_preV hC hP (Nat.le_trans hn9 hS.1) hD hAn (pl_recv hK hP (hMr3.2.2.2.2.2.2.2.2.2.2.2.1 0 (by decide)) hMr3.1 (ci := 9) (q := (RX10, TX10, 13)) rfl)) rfl rfl hl.1 rfl (lv_room (Nat.le_of_ble_eq_true rfl)) dX10_pair_31 ⟨Nat.zero_le _, Nat.zero_le _⟩) hD hS hA (fun r6 ur6 H locs hr6 hP hD hS hzr6 => ?_)
    obtain ⟨hvr6, Fr6, hwr6, hMr6⟩ := hr6
    have hvr6 : r6 = zI (sC S : Int) := hvr6
    subst hvr6
    have hwr6 : ur6 = va_pl L Fr6 := hwr6
    subst hwr6
    refine lv_goto (tgt := 38) hx hb dX10_pair_34 (by decide) ?_
    rw [hQ]
    exact pc_iret hx hb hrt hP (by rw [← hAd]; exact hD) (by rw [← hAd]; exact hS) (⟨rfl, _, _, _, _, _, _, rfl, by rw [show ((sC S + 1 : Nat) : Int) = (sC S : Int) + 1 by omega]; exact hMr6, mSync.node hY w9 i j 0 (1 + max (sD S i) (sD S j)) (rfl) (rfl) (fun _ _ => rfl) rfl (rfl)⟩) dX10_pair_38 hlocks

set_option maxHeartbeats 4000000 in
set_option maxRecDepth 100000 in
theorem kX10_pair_n1 (l : Launch) (D : va_G) (k : Nat → ClassId) (L : List Nat) (f : Nat → va_E) (S : SA) (hO : aOK S) (a : Nat → Nat) (tw : Int) (A1 A2 A3 A4 A5 A6 A7 A8 A9 A10 : Nat → Int32) (hM : mRep k L f a tw ((sN S)) ((sC S : Int)) A1 A2 A3 A4 A5 A6 A7 A8 A9 A10) (hMT : 0 ≤ tw ∧ tw ≤ 3) (hY : mSync S A1 A2 A3 A4 A5 A6 A7) (z : Int) (hz : -2147483648 ≤ z ∧ z < 2147483648) (y : Int) (hy : -2147483648 ≤ y ∧ y < 2147483648) (hzy : ¬ ((0 ≤ z ∧ z < (sC S : Int)) ∧ (0 ≤ y ∧ y < (sC S : Int)))) (x : Int) (hx : -2147483648 ≤ x ∧ x < 2147483648) (n0 sz : Nat) : Met l yX10_pair wsX10_pair ({ frames := 3, cells := 0, slots := 0, locals := 67 } : Room) (va_Pc [.ref (a 0), .int (zI (x)), .int (zI (z)), .int (zI (y))] (pPre D (tyL k) n0 (va_pl L f) sz)) (va_Qi (fun _ u => ∃ F : Nat → va_E, u = va_pl L F ∧ mRep k L F a 1 ((sN S)) ((sC S : Int)) A1 A2 A3 A4 A5 A6 A7 A8 A9 A10) (pB D (va_pl L f) sz) (va_A (va_pl L f) sz)) 0 0 (va_A (va_pl L f) sz) := by
  refine Met.ofW (cc := cX10_pair) (maxL := 4) (ret := (some .int)) (by decide) rfl ?_
  intro p e s m args below meth c s₁ B hml hv
  obtain ⟨rfl, hsz, hn9, hP, hC, hD0⟩ := hv
  have hK := hC.1
  have hNW := hC.2.1
  have hx := B.exec
  have hb := B.bytes
  have hrt := B.returns
  have hts := atoms_spec (ws := wsX10_pair) B.pre
  have hown : s.vm.findClass RX10 = some m.cls := findClass_of_methodNamed B.named
  have hlocks := B.notSynchronized
  subst hsz
  obtain ⟨A, hAd⟩ : ∃ A, A = va_A (va_pl L f) s.heap.size := ⟨_, rfl⟩
  have hD := hD0.self (sz := s.heap.size)
  rw [← hAd] at hD
  have hA : ∀ q : Nat, s.heap.size ≤ q → A q := fun q h => by rw [hAd]; exact Or.inr h
  have hAn : ∀ q : Nat, A q → n0 ≤ q := fun q h => by
    rw [hAd] at h
    rcases h with ⟨k9, e9, hk9⟩ | h
    · exact hD0.2 k9 _ hk9
    · exact Nat.le_trans hn9 h
  have hS : va_S A s.heap s.heap [] := va_S.rf
  have hl := lv_entry ([.ref (a 0), .int (zI (x)), .int (zI (z)), .int (zI (y))]) (n := 4) (Nat.le_of_ble_eq_true rfl)
  rw [lg_entry_eq]
  generalize (lg_sl ([.ref (a 0), .int (zI (x)), .int (zI (z)), .int (zI (y))]) ++ List.replicate (4 - (lg_sl ([.ref (a 0), .int (zI (x)), .int (zI (z)), .int (zI (y))])).length) Slot.unset).toArray = ls at hl ⊢
  have hl : lv_has ls 4 [(0, .ref (a 0)), (1, .int (zI (x))), (2, .int (zI (z))), (3, .int (zI (y)))] := hl
  obtain ⟨Q, hQ⟩ : ∃ Q, Q = MQ below (va_Qi (fun _ u => ∃ F : Nat → va_E, u = va_pl L F ∧ mRep k L F a 1 ((sN S)) ((sC S : Int)) A1 A2 A3 A4 A5 A6 A7 A8 A9 A10) (pB D (va_pl L f) s.heap.size) (va_A (va_pl L f) s.heap.size)) ([.ref (a 0), .int (zI (x)), .int (zI (z)), .int (zI (y))] : List Value).toArray s 0 0 (va_A (va_pl L f) s.heap.size) := ⟨_, rfl⟩
  rw [← hQ]
  have hMN := hO.1
  have hMC : 0 ≤ (sC S : Int) ∧ (sC S : Int) ≤ 30 := by have h8 := hO.2.2.2.1; omega
  refine lv_aload_n hx hb dX10_pair_0 rfl (lv_at hl 0 rfl) ?_
  refine lv_aload_n hx hb dX10_pair_1 rfl (lv_at hl 0 rfl) ?_
  refine lv_iload_n hx hb dX10_pair_2 rfl (lv_at hl 2 rfl) ?_
  refine lv_iload_n hx hb dX10_pair_3 rfl (lv_at hl 3 rfl) ?_
  refine lv_iload_n hx hb dX10_pair_4 rfl (lv_at hl 1 rfl) ?_
  refine zr_const hx hb dX10_pair_5 ?_
  refine zr_bipush hx hb dX10_pair_6 (by decide) ?_
  refine vp_callSi (va_Run.run (va_runS (As := [.int (zI (x)), .int (zI (0)), .int (zI (9))]) (rest := [.int (zI (y)), .int (zI (z)), .ref (a 0), .ref (a 0)]) ⟨hx, hb, hml, hown, hts⟩ (kX10_in l D k L f (x) (by omega) (0) (by omega) (9) (by omega)) (va_cwS 3 hts gX10_pair_X10_in rfl rfl rfl (by decide +kernel) ⟨Nat.le_of_ble_eq_true rfl, Nat.le_of_ble_eq_true rfl⟩) (rc_preS hC hP) rfl rfl hl.1 rfl (lv_room (Nat.le_of_ble_eq_true rfl)) dX10_pair_8 ⟨Nat.zero_le _, Nat.zero_le _⟩)) (fun r1 hr1 => ?_)
  subst hr1
  refine vp_callSi (va_Run.run (va_runV (As := [.int (zI (z)), .int (zI (y)), .int (bI (inB x 0 9))]) (rest := [.ref (a 0)]) ⟨hx, hb, hml, hown, hts⟩ (kX10_reason_1 l D k L f S hO a tw A1 A2 A3 A4 A5 A6 A7 A8 A9 A10 hM (by omega) hY z (by omega) y (by omega) hzy (inB x 0 9)) (cwV 3 hts gX10_pair_X10_reason rfl rfl rfl (by decide +kernel) ⟨Nat.le_of_ble_eq_true rfl, Nat.le_of_ble_eq_true rfl⟩) (rc_preV hC hP (pl_recv hK hP (hM.2.2.2.2.2.2.2.2.2.2.2.1 0 (by decide)) hM.1 (ci := 9) (q := (RX10, TX10, 13)) rfl)) rfl rfl hl.1 rfl (lv_room (Nat.le_of_ble_eq_true rfl)) dX10_pair_11 ⟨Nat.zero_le _, Nat.zero_le _⟩)) (fun r2 hr2 => ?_)
  subst hr2
  refine pc_calli (va_runV (As := [.int (zI (1))]) (rest := []) ⟨hx, hb, hml, hown, hts⟩ (kX10_goesWell l D k L f a tw ((sN S)) ((sC S : Int)) A1 A2 A3 A4 A5 A6 A7 A8 A9 A10 hM (by omega) (by omega) (by omega) (1) (by omega) n0 _) (cwV 1 hts gX10_pair_X10_goesWell rfl rfl rfl (by decide +kernel) ⟨Nat.le_of_ble_eq_true rfl, Nat.le_of_ble_eq_true rfl⟩) (pc_preV hC hP (Nat.le_trans hn9 hS.1) hD hAn (pl_recv hK hP (hM.2.2.2.2.2.2.2.2.2.2.2.1 0 (by decide)) hM.1 (ci := 9) (q := (RX10, TX10, 13)) rfl)) rfl rfl hl.1 rfl (lv_room (Nat.le_of_ble_eq_true rfl)) dX10_pair_14 ⟨Nat.zero_le _, Nat.zero_le _⟩) hD hS hA (fun r3 ur3 H locs hr3 hP hD hS hzr3 => ?_)
  obtain ⟨hvr3, Fr3, hwr3, hMr3⟩ := hr3
  have hvr3 : r3 = bI (decide ((1 : Int) = 0)) := hvr3
  subst hvr3
  have hwr3 : ur3 = va_pl L Fr3 := hwr3
  subst hwr3
  refine zr_ifb_eq (tgt := 37) hx hb dX10_pair_17 (by decide) (fun c4 => ?_) (fun c4 => ?_)
  · refine zr_const hx hb dX10_pair_37 ?_
    rw [hQ]
    exact pc_iret hx hb hrt hP (by rw [← hAd]; exact hD) (by rw [← hAd]; exact hS) (⟨_, rfl, hMr3⟩) dX10_pair_38 hlocks
  · exact absurd c4 (by decide)

set_option maxHeartbeats 4000000 in
set_option maxRecDepth 100000 in
theorem kX10_pair_n2 (l : Launch) (D : va_G) (k : Nat → ClassId) (L : List Nat) (f : Nat → va_E) (S : SA) (hO : aOK S) (a : Nat → Nat) (tw : Int) (A1 A2 A3 A4 A5 A6 A7 A8 A9 A10 : Nat → Int32) (hM : mRep k L f a tw ((sN S)) ((sC S : Int)) A1 A2 A3 A4 A5 A6 A7 A8 A9 A10) (hMT : 0 ≤ tw ∧ tw ≤ 3) (hY : mSync S A1 A2 A3 A4 A5 A6 A7) (i : Nat) (hi : i < sC S) (j : Nat) (hj : j < sC S) (x : Int) (hx : -2147483648 ≤ x ∧ x < 2147483648) (hr9 : ¬ (0 ≤ x ∧ x ≤ 9)) (n0 sz : Nat) : Met l yX10_pair wsX10_pair ({ frames := 3, cells := 0, slots := 0, locals := 67 } : Room) (va_Pc [.ref (a 0), .int (zI (x)), .int (zI ((i : Int))), .int (zI ((j : Int)))] (pPre D (tyL k) n0 (va_pl L f) sz)) (va_Qi (fun _ u => ∃ F : Nat → va_E, u = va_pl L F ∧ mRep k L F a 2 ((sN S)) ((sC S : Int)) A1 A2 A3 A4 A5 A6 A7 A8 A9 A10) (pB D (va_pl L f) sz) (va_A (va_pl L f) sz)) 0 0 (va_A (va_pl L f) sz) := by
  refine Met.ofW (cc := cX10_pair) (maxL := 4) (ret := (some .int)) (by decide) rfl ?_
  intro p e s m args below meth c s₁ B hml hv
  obtain ⟨rfl, hsz, hn9, hP, hC, hD0⟩ := hv
  have hK := hC.1
  have hNW := hC.2.1
  have hx := B.exec
  have hb := B.bytes
  have hrt := B.returns
  have hts := atoms_spec (ws := wsX10_pair) B.pre
  have hown : s.vm.findClass RX10 = some m.cls := findClass_of_methodNamed B.named
  have hlocks := B.notSynchronized
  subst hsz
  obtain ⟨A, hAd⟩ : ∃ A, A = va_A (va_pl L f) s.heap.size := ⟨_, rfl⟩
  have hD := hD0.self (sz := s.heap.size)
  rw [← hAd] at hD
  have hA : ∀ q : Nat, s.heap.size ≤ q → A q := fun q h => by rw [hAd]; exact Or.inr h
  have hAn : ∀ q : Nat, A q → n0 ≤ q := fun q h => by
    rw [hAd] at h
    rcases h with ⟨k9, e9, hk9⟩ | h
    · exact hD0.2 k9 _ hk9
    · exact Nat.le_trans hn9 h
  have hS : va_S A s.heap s.heap [] := va_S.rf
  have hl := lv_entry ([.ref (a 0), .int (zI (x)), .int (zI ((i : Int))), .int (zI ((j : Int)))]) (n := 4) (Nat.le_of_ble_eq_true rfl)
  rw [lg_entry_eq]
  generalize (lg_sl ([.ref (a 0), .int (zI (x)), .int (zI ((i : Int))), .int (zI ((j : Int)))]) ++ List.replicate (4 - (lg_sl ([.ref (a 0), .int (zI (x)), .int (zI ((i : Int))), .int (zI ((j : Int)))])).length) Slot.unset).toArray = ls at hl ⊢
  have hl : lv_has ls 4 [(0, .ref (a 0)), (1, .int (zI (x))), (2, .int (zI ((i : Int)))), (3, .int (zI ((j : Int))))] := hl
  obtain ⟨Q, hQ⟩ : ∃ Q, Q = MQ below (va_Qi (fun _ u => ∃ F : Nat → va_E, u = va_pl L F ∧ mRep k L F a 2 ((sN S)) ((sC S : Int)) A1 A2 A3 A4 A5 A6 A7 A8 A9 A10) (pB D (va_pl L f) s.heap.size) (va_A (va_pl L f) s.heap.size)) ([.ref (a 0), .int (zI (x)), .int (zI ((i : Int))), .int (zI ((j : Int)))] : List Value).toArray s 0 0 (va_A (va_pl L f) s.heap.size) := ⟨_, rfl⟩
  rw [← hQ]
  have hMN := hO.1
  have hMC : 0 ≤ (sC S : Int) ∧ (sC S : Int) ≤ 30 := by have h8 := hO.2.2.2.1; omega
  refine lv_aload_n hx hb dX10_pair_0 rfl (lv_at hl 0 rfl) ?_
  refine lv_aload_n hx hb dX10_pair_1 rfl (lv_at hl 0 rfl) ?_
  refine lv_iload_n hx hb dX10_pair_2 rfl (lv_at hl 2 rfl) ?_
  refine lv_iload_n hx hb dX10_pair_3 rfl (lv_at hl 3 rfl) ?_
  refine lv_iload_n hx hb dX10_pair_4 rfl (lv_at hl 1 rfl) ?_
  refine zr_const hx hb dX10_pair_5 ?_
  refine zr_bipush hx hb dX10_pair_6 (by decide) ?_
  refine vp_callSi (va_Run.run (va_runS (As := [.int (zI (x)), .int (zI (0)), .int (zI (9))]) (rest := [.int (zI ((j : Int))), .int (zI ((i : Int))), .ref (a 0), .ref (a 0)]) ⟨hx, hb, hml, hown, hts⟩ (kX10_in l D k L f (x) (by omega) (0) (by omega) (9) (by omega)) (va_cwS 3 hts gX10_pair_X10_in rfl rfl rfl (by decide +kernel) ⟨Nat.le_of_ble_eq_true rfl, Nat.le_of_ble_eq_true rfl⟩) (rc_preS hC hP) rfl rfl hl.1 rfl (lv_room (Nat.le_of_ble_eq_true rfl)) dX10_pair_8 ⟨Nat.zero_le _, Nat.zero_le _⟩)) (fun r1 hr1 => ?_)
  subst hr1
  refine vp_callSi (va_Run.run (va_runV (As := [.int (zI ((i : Int))), .int (zI ((j : Int))), .int (bI (inB x 0 9))]) (rest := [.ref (a 0)]) ⟨hx, hb, hml, hown, hts⟩ (kX10_reason_2 l D k L f S hO a tw A1 A2 A3 A4 A5 A6 A7 A8 A9 A10 hM (by omega) hY i hi j hj (inB x 0 9) (inB_f (by omega))) (cwV 3 hts gX10_pair_X10_reason rfl rfl rfl (by decide +kernel) ⟨Nat.le_of_ble_eq_true rfl, Nat.le_of_ble_eq_true rfl⟩) (rc_preV hC hP (pl_recv hK hP (hM.2.2.2.2.2.2.2.2.2.2.2.1 0 (by decide)) hM.1 (ci := 9) (q := (RX10, TX10, 13)) rfl)) rfl rfl hl.1 rfl (lv_room (Nat.le_of_ble_eq_true rfl)) dX10_pair_11 ⟨Nat.zero_le _, Nat.zero_le _⟩)) (fun r2 hr2 => ?_)
  subst hr2
  refine pc_calli (va_runV (As := [.int (zI (2))]) (rest := []) ⟨hx, hb, hml, hown, hts⟩ (kX10_goesWell l D k L f a tw ((sN S)) ((sC S : Int)) A1 A2 A3 A4 A5 A6 A7 A8 A9 A10 hM (by omega) (by omega) (by omega) (2) (by omega) n0 _) (cwV 1 hts gX10_pair_X10_goesWell rfl rfl rfl (by decide +kernel) ⟨Nat.le_of_ble_eq_true rfl, Nat.le_of_ble_eq_true rfl⟩) (pc_preV hC hP (Nat.le_trans hn9 hS.1) hD hAn (pl_recv hK hP (hM.2.2.2.2.2.2.2.2.2.2.2.1 0 (by decide)) hM.1 (ci := 9) (q := (RX10, TX10, 13)) rfl)) rfl rfl hl.1 rfl (lv_room (Nat.le_of_ble_eq_true rfl)) dX10_pair_14 ⟨Nat.zero_le _, Nat.zero_le _⟩) hD hS hA (fun r3 ur3 H locs hr3 hP hD hS hzr3 => ?_)
  obtain ⟨hvr3, Fr3, hwr3, hMr3⟩ := hr3
  have hvr3 : r3 = bI (decide ((2 : Int) = 0)) := hvr3
  subst hvr3
  have hwr3 : ur3 = va_pl L Fr3 := hwr3
  subst hwr3
  refine zr_ifb_eq (tgt := 37) hx hb dX10_pair_17 (by decide) (fun c4 => ?_) (fun c4 => ?_)
  · refine zr_const hx hb dX10_pair_37 ?_
    rw [hQ]
    exact pc_iret hx hb hrt hP (by rw [← hAd]; exact hD) (by rw [← hAd]; exact hS) (⟨_, rfl, hMr3⟩) dX10_pair_38 hlocks
  · exact absurd c4 (by decide)

set_option maxHeartbeats 4000000 in
set_option maxRecDepth 100000 in
theorem kX10_pair_n3 (l : Launch) (D : va_G) (k : Nat → ClassId) (L : List Nat) (f : Nat → va_E) (S : SA) (hO : aOK S) (a : Nat → Nat) (tw : Int) (A1 A2 A3 A4 A5 A6 A7 A8 A9 A10 : Nat → Int32) (hM : mRep k L f a tw ((sN S)) ((sC S : Int)) A1 A2 A3 A4 A5 A6 A7 A8 A9 A10) (hMT : 0 ≤ tw ∧ tw ≤ 3) (hY : mSync S A1 A2 A3 A4 A5 A6 A7) (i : Nat) (hi : i < sC S) (j : Nat) (hj : j < sC S) (x : Int) (hx : 0 ≤ x ∧ x ≤ 9) (h3 : sC S = 30 ∨ 6 < 1 + max (sD S i) (sD S j)) (n0 sz : Nat) : Met l yX10_pair wsX10_pair ({ frames := 3, cells := 0, slots := 0, locals := 67 } : Room) (va_Pc [.ref (a 0), .int (zI (x)), .int (zI ((i : Int))), .int (zI ((j : Int)))] (pPre D (tyL k) n0 (va_pl L f) sz)) (va_Qi (fun _ u => ∃ F : Nat → va_E, u = va_pl L F ∧ mRep k L F a 3 ((sN S)) ((sC S : Int)) A1 A2 A3 A4 A5 A6 A7 A8 A9 A10) (pB D (va_pl L f) sz) (va_A (va_pl L f) sz)) 0 0 (va_A (va_pl L f) sz) := by
  refine Met.ofW (cc := cX10_pair) (maxL := 4) (ret := (some .int)) (by decide) rfl ?_
  intro p e s m args below meth c s₁ B hml hv
  obtain ⟨rfl, hsz, hn9, hP, hC, hD0⟩ := hv
  have hK := hC.1
  have hNW := hC.2.1
  have hx := B.exec
  have hb := B.bytes
  have hrt := B.returns
  have hts := atoms_spec (ws := wsX10_pair) B.pre
  have hown : s.vm.findClass RX10 = some m.cls := findClass_of_methodNamed B.named
  have hlocks := B.notSynchronized
  subst hsz
  obtain ⟨A, hAd⟩ : ∃ A, A = va_A (va_pl L f) s.heap.size := ⟨_, rfl⟩
  have hD := hD0.self (sz := s.heap.size)
  rw [← hAd] at hD
  have hA : ∀ q : Nat, s.heap.size ≤ q → A q := fun q h => by rw [hAd]; exact Or.inr h
  have hAn : ∀ q : Nat, A q → n0 ≤ q := fun q h => by
    rw [hAd] at h
    rcases h with ⟨k9, e9, hk9⟩ | h
    · exact hD0.2 k9 _ hk9
    · exact Nat.le_trans hn9 h
  have hS : va_S A s.heap s.heap [] := va_S.rf
  have hl := lv_entry ([.ref (a 0), .int (zI (x)), .int (zI ((i : Int))), .int (zI ((j : Int)))]) (n := 4) (Nat.le_of_ble_eq_true rfl)
  rw [lg_entry_eq]
  generalize (lg_sl ([.ref (a 0), .int (zI (x)), .int (zI ((i : Int))), .int (zI ((j : Int)))]) ++ List.replicate (4 - (lg_sl ([.ref (a 0), .int (zI (x)), .int (zI ((i : Int))), .int (zI ((j : Int)))])).length) Slot.unset).toArray = ls at hl ⊢
  have hl : lv_has ls 4 [(0, .ref (a 0)), (1, .int (zI (x))), (2, .int (zI ((i : Int)))), (3, .int (zI ((j : Int))))] := hl
  obtain ⟨Q, hQ⟩ : ∃ Q, Q = MQ below (va_Qi (fun _ u => ∃ F : Nat → va_E, u = va_pl L F ∧ mRep k L F a 3 ((sN S)) ((sC S : Int)) A1 A2 A3 A4 A5 A6 A7 A8 A9 A10) (pB D (va_pl L f) s.heap.size) (va_A (va_pl L f) s.heap.size)) ([.ref (a 0), .int (zI (x)), .int (zI ((i : Int))), .int (zI ((j : Int)))] : List Value).toArray s 0 0 (va_A (va_pl L f) s.heap.size) := ⟨_, rfl⟩
  rw [← hQ]
  have hMN := hO.1
  have hMC : 0 ≤ (sC S : Int) ∧ (sC S : Int) ≤ 30 := by have h8 := hO.2.2.2.1; omega
  refine lv_aload_n hx hb dX10_pair_0 rfl (lv_at hl 0 rfl) ?_
  refine lv_aload_n hx hb dX10_pair_1 rfl (lv_at hl 0 rfl) ?_
  refine lv_iload_n hx hb dX10_pair_2 rfl (lv_at hl 2 rfl) ?_
  refine lv_iload_n hx hb dX10_pair_3 rfl (lv_at hl 3 rfl) ?_
  refine lv_iload_n hx hb dX10_pair_4 rfl (lv_at hl 1 rfl) ?_
  refine zr_const hx hb dX10_pair_5 ?_
  refine zr_bipush hx hb dX10_pair_6 (by decide) ?_
  refine vp_callSi (va_Run.run (va_runS (As := [.int (zI (x)), .int (zI (0)), .int (zI (9))]) (rest := [.int (zI ((j : Int))), .int (zI ((i : Int))), .ref (a 0), .ref (a 0)]) ⟨hx, hb, hml, hown, hts⟩ (kX10_in l D k L f (x) (by omega) (0) (by omega) (9) (by omega)) (va_cwS 3 hts gX10_pair_X10_in rfl rfl rfl (by decide +kernel) ⟨Nat.le_of_ble_eq_true rfl, Nat.le_of_ble_eq_true rfl⟩) (rc_preS hC hP) rfl rfl hl.1 rfl (lv_room (Nat.le_of_ble_eq_true rfl)) dX10_pair_8 ⟨Nat.zero_le _, Nat.zero_le _⟩)) (fun r1 hr1 => ?_)
  subst hr1
  refine vp_callSi (va_Run.run (va_runV (As := [.int (zI ((i : Int))), .int (zI ((j : Int))), .int (bI (inB x 0 9))]) (rest := [.ref (a 0)]) ⟨hx, hb, hml, hown, hts⟩ (kX10_reason_3 l D k L f S hO a tw A1 A2 A3 A4 A5 A6 A7 A8 A9 A10 hM (by omega) hY i hi j hj (inB x 0 9) (inB_t (by omega)) h3) (cwV 3 hts gX10_pair_X10_reason rfl rfl rfl (by decide +kernel) ⟨Nat.le_of_ble_eq_true rfl, Nat.le_of_ble_eq_true rfl⟩) (rc_preV hC hP (pl_recv hK hP (hM.2.2.2.2.2.2.2.2.2.2.2.1 0 (by decide)) hM.1 (ci := 9) (q := (RX10, TX10, 13)) rfl)) rfl rfl hl.1 rfl (lv_room (Nat.le_of_ble_eq_true rfl)) dX10_pair_11 ⟨Nat.zero_le _, Nat.zero_le _⟩)) (fun r2 hr2 => ?_)
  subst hr2
  refine pc_calli (va_runV (As := [.int (zI (3))]) (rest := []) ⟨hx, hb, hml, hown, hts⟩ (kX10_goesWell l D k L f a tw ((sN S)) ((sC S : Int)) A1 A2 A3 A4 A5 A6 A7 A8 A9 A10 hM (by omega) (by omega) (by omega) (3) (by omega) n0 _) (cwV 1 hts gX10_pair_X10_goesWell rfl rfl rfl (by decide +kernel) ⟨Nat.le_of_ble_eq_true rfl, Nat.le_of_ble_eq_true rfl⟩) (pc_preV hC hP (Nat.le_trans hn9 hS.1) hD hAn (pl_recv hK hP (hM.2.2.2.2.2.2.2.2.2.2.2.1 0 (by decide)) hM.1 (ci := 9) (q := (RX10, TX10, 13)) rfl)) rfl rfl hl.1 rfl (lv_room (Nat.le_of_ble_eq_true rfl)) dX10_pair_14 ⟨Nat.zero_le _, Nat.zero_le _⟩) hD hS hA (fun r3 ur3 H locs hr3 hP hD hS hzr3 => ?_)
  obtain ⟨hvr3, Fr3, hwr3, hMr3⟩ := hr3
  have hvr3 : r3 = bI (decide ((3 : Int) = 0)) := hvr3
  subst hvr3
  have hwr3 : ur3 = va_pl L Fr3 := hwr3
  subst hwr3
  refine zr_ifb_eq (tgt := 37) hx hb dX10_pair_17 (by decide) (fun c4 => ?_) (fun c4 => ?_)
  · refine zr_const hx hb dX10_pair_37 ?_
    rw [hQ]
    exact pc_iret hx hb hrt hP (by rw [← hAd]; exact hD) (by rw [← hAd]; exact hS) (⟨_, rfl, hMr3⟩) dX10_pair_38 hlocks
  · exact absurd c4 (by decide)

set_option maxHeartbeats 4000000 in
set_option maxRecDepth 100000 in
theorem kX10_near (l : Launch) (D : va_G) (k : Nat → ClassId) (L : List Nat) (f : Nat → va_E) (S : SA) (hO : aOK S) (a : Nat → Nat) (tw : Int) (A1 A2 A3 A4 A5 A6 A7 A8 A9 A10 : Nat → Int32) (hM : mRep k L f a tw ((sN S)) ((sC S : Int)) A1 A2 A3 A4 A5 A6 A7 A8 A9 A10) (hMT : 0 ≤ tw ∧ tw ≤ 3) (hY : mSync S A1 A2 A3 A4 A5 A6 A7) (y : Int) (hy : 0 ≤ y ∧ y ≤ 24) (i : Nat) (hi : i < sC S) (j : Nat) (hj : j < sC S) (hc : sC S < 30) (hdp : 1 + max (sD S i) (sD S j) ≤ 6) (n0 sz : Nat) : Met l yX10_near wsX10_near ({ frames := 3, cells := 0, slots := 0, locals := 67 } : Room) (va_Pc [.ref (a 0), .int (zI ((i : Int))), .int (zI ((j : Int))), .int (zI (y))] (pPre D (tyL k) n0 (va_pl L f) sz)) (va_Qi (fun r9 u => r9 = zI (sC S : Int) ∧ ∃ (F : Nat → va_E) (B3 B4 B5 B6 B7 : Nat → Int32), u = va_pl L F ∧ mRep k L F a 0 ((sN S)) (((sC S + 1 : Nat) : Int)) A1 A2 B3 B4 B5 B6 B7 A8 A9 A10 ∧ mSync (addS S 10 i j y (1 + max (sD S i) (sD S j))) A1 A2 B3 B4 B5 B6 B7) (pB D (va_pl L f) sz) (va_A (va_pl L f) sz)) 0 0 (va_A (va_pl L f) sz) := by
  refine Met.ofW (cc := cX10_near) (maxL := 4) (ret := (some .int)) (by decide) rfl ?_
  intro p e s m args below meth c s₁ B hml hv
  obtain ⟨rfl, hsz, hn9, hP, hC, hD0⟩ := hv
  have hK := hC.1
  have hNW := hC.2.1
  have hx := B.exec
  have hb := B.bytes
  have hrt := B.returns
  have hts := atoms_spec (ws := wsX10_near) B.pre
  have hown : s.vm.findClass RX10 = some m.cls := findClass_of_methodNamed B.named
  have hlocks := B.notSynchronized
  subst hsz
  obtain ⟨A, hAd⟩ : ∃ A, A = va_A (va_pl L f) s.heap.size := ⟨_, rfl⟩
  have hD := hD0.self (sz := s.heap.size)
  rw [← hAd] at hD
  have hA : ∀ q : Nat, s.heap.size ≤ q → A q := fun q h => by rw [hAd]; exact Or.inr h
  have hAn : ∀ q : Nat, A q → n0 ≤ q := fun q h => by
    rw [hAd] at h
    rcases h with ⟨k9, e9, hk9⟩ | h
    · exact hD0.2 k9 _ hk9
    · exact Nat.le_trans hn9 h
  have hS : va_S A s.heap s.heap [] := va_S.rf
  have hl := lv_entry ([.ref (a 0), .int (zI ((i : Int))), .int (zI ((j : Int))), .int (zI (y))]) (n := 4) (Nat.le_of_ble_eq_true rfl)
  rw [lg_entry_eq]
  generalize (lg_sl ([.ref (a 0), .int (zI ((i : Int))), .int (zI ((j : Int))), .int (zI (y))]) ++ List.replicate (4 - (lg_sl ([.ref (a 0), .int (zI ((i : Int))), .int (zI ((j : Int))), .int (zI (y))])).length) Slot.unset).toArray = ls at hl ⊢
  have hl : lv_has ls 4 [(0, .ref (a 0)), (1, .int (zI ((i : Int)))), (2, .int (zI ((j : Int)))), (3, .int (zI (y)))] := hl
  obtain ⟨Q, hQ⟩ : ∃ Q, Q = MQ below (va_Qi (fun r9 u => r9 = zI (sC S : Int) ∧ ∃ (F : Nat → va_E) (B3 B4 B5 B6 B7 : Nat → Int32), u = va_pl L F ∧ mRep k L F a 0 ((sN S)) (((sC S + 1 : Nat) : Int)) A1 A2 B3 B4 B5 B6 B7 A8 A9 A10 ∧ mSync (addS S 10 i j y (1 + max (sD S i) (sD S j))) A1 A2 B3 B4 B5 B6 B7) (pB D (va_pl L f) s.heap.size) (va_A (va_pl L f) s.heap.size)) ([.ref (a 0), .int (zI ((i : Int))), .int (zI ((j : Int))), .int (zI (y))] : List Value).toArray s 0 0 (va_A (va_pl L f) s.heap.size) := ⟨_, rfl⟩
  rw [← hQ]
  have hMN := hO.1
  have hMC : 0 ≤ (sC S : Int) ∧ (sC S : Int) ≤ 30 := by have h8 := hO.2.2.2.1; omega
  have hd1 := (hO.2.2.2.2 i hi).2.1
  have hd2 := (hO.2.2.2.2 j hj).2.1
  refine lv_aload_n hx hb dX10_near_0 rfl (lv_at hl 0 rfl) ?_
  refine lv_aload_n hx hb dX10_near_1 rfl (lv_at hl 0 rfl) ?_
  refine lv_iload_n hx hb dX10_near_2 rfl (lv_at hl 1 rfl) ?_
  refine lv_iload_n hx hb dX10_near_3 rfl (lv_at hl 2 rfl) ?_
  refine lv_iload_n hx hb dX10_near_4 rfl (lv_at hl 3 rfl) ?_
  refine zr_const hx hb dX10_near_5 ?_
  refine zr_bipush hx hb dX10_near_6 (by decide) ?_
  refine vp_callSi (va_Run.run (va_runS (As := [.int (zI (y)), .int (zI (0)), .int (zI (24))]) (rest := [.int (zI ((j : Int))), .int (zI ((i : Int))), .ref (a 0), .ref (a 0)]) ⟨hx, hb, hml, hown, hts⟩ (kX10_in l D k L f (y) (by omega) (0) (by omega) (24) (by omega)) (va_cwS 3 hts gX10_near_X10_in rfl rfl rfl (by decide +kernel) ⟨Nat.le_of_ble_eq_true rfl, Nat.le_of_ble_eq_true rfl⟩) (rc_preS hC hP) rfl rfl hl.1 rfl (lv_room (Nat.le_of_ble_eq_true rfl)) dX10_near_8 ⟨Nat.zero_le _, Nat.zero_le _⟩)) (fun r1 hr1 => ?_)
  subst hr1
  refine vp_callSi (va_Run.run (va_runV (As := [.int (zI ((i : Int))), .int (zI ((j : Int))), .int (bI (inB y 0 24))]) (rest := [.ref (a 0)]) ⟨hx, hb, hml, hown, hts⟩ (kX10_reason_0 l D k L f S hO a tw A1 A2 A3 A4 A5 A6 A7 A8 A9 A10 hM (by omega) hY i hi j hj (inB y 0 24) (inB_t (by omega)) hc hdp) (cwV 3 hts gX10_near_X10_reason rfl rfl rfl (by decide +kernel) ⟨Nat.le_of_ble_eq_true rfl, Nat.le_of_ble_eq_true rfl⟩) (rc_preV hC hP (pl_recv hK hP (hM.2.2.2.2.2.2.2.2.2.2.2.1 0 (by decide)) hM.1 (ci := 9) (q := (RX10, TX10, 13)) rfl)) rfl rfl hl.1 rfl (lv_room (Nat.le_of_ble_eq_true rfl)) dX10_near_11 ⟨Nat.zero_le _, Nat.zero_le _⟩)) (fun r2 hr2 => ?_)
  subst hr2
  refine pc_calli (va_runV (As := [.int (zI (0))]) (rest := []) ⟨hx, hb, hml, hown, hts⟩ (kX10_goesWell l D k L f a tw ((sN S)) ((sC S : Int)) A1 A2 A3 A4 A5 A6 A7 A8 A9 A10 hM (by omega) (by omega) (by omega) (0) (by omega) n0 _) (cwV 1 hts gX10_near_X10_goesWell rfl rfl rfl (by decide +kernel) ⟨Nat.le_of_ble_eq_true rfl, Nat.le_of_ble_eq_true rfl⟩) (pc_preV hC hP (Nat.le_trans hn9 hS.1) hD hAn (pl_recv hK hP (hM.2.2.2.2.2.2.2.2.2.2.2.1 0 (by decide)) hM.1 (ci := 9) (q := (RX10, TX10, 13)) rfl)) rfl rfl hl.1 rfl (lv_room (Nat.le_of_ble_eq_true rfl)) dX10_near_14 ⟨Nat.zero_le _, Nat.zero_le _⟩) hD hS hA (fun r3 ur3 H locs hr3 hP hD hS hzr3 => ?_)
  obtain ⟨hvr3, Fr3, hwr3, hMr3⟩ := hr3
  have hvr3 : r3 = bI (decide ((0 : Int) = 0)) := hvr3
  subst hvr3
  have hwr3 : ur3 = va_pl L Fr3 := hwr3
  subst hwr3
  refine zr_ifb_eq (tgt := 38) hx hb dX10_near_17 (by decide) (fun c4 => ?_) (fun c4 => ?_)
  · exact absurd c4 (by decide)
  · refine lv_aload_n hx hb dX10_near_20 rfl (lv_at hl 0 rfl) ?_
    refine zr_bipush hx hb dX10_near_21 (by decide) ?_
    refine lv_iload_n hx hb dX10_near_23 rfl (lv_at hl 1 rfl) ?_
    refine lv_iload_n hx hb dX10_near_24 rfl (lv_at hl 2 rfl) ?_
    refine lv_iload_n hx hb dX10_near_25 rfl (lv_at hl 3 rfl) ?_
    refine lv_aload_n hx hb dX10_near_26 rfl (lv_at hl 0 rfl) ?_
    refine lv_iload_n hx hb dX10_near_27 rfl (lv_at hl 1 rfl) ?_
    refine lv_iload_n hx hb dX10_near_28 rfl (lv_at hl 2 rfl) ?_
    refine vp_callSi (va_Run.run (va_runV (As := [.int (zI ((i : Int))), .int (zI ((j : Int)))]) (rest := [.int (zI (y)), .int (zI ((j : Int))), .int (zI ((i : Int))), .int (zI (10)), .ref (a 0)]) ⟨hx, hb, hml, hown, hts⟩ (kX10_depthOf l D k L Fr3 S hO a 0 A1 A2 A3 A4 A5 A6 A7 A8 A9 A10 hMr3 (by omega) hY i hi j hj) (cwV 2 hts gX10_near_X10_depthOf rfl rfl rfl (by decide +kernel) ⟨Nat.le_of_ble_eq_true rfl, Nat.le_of_ble_eq_true rfl⟩) (rc_preV hC hP (pl_recv hK hP (hMr3.2.2.2.2.2.2.2.2.2.2.2.1 0 (by decide)) hMr3.1 (ci := 9) (q := (RX10, TX10, 13)) rfl)) rfl rfl hl.1 rfl (lv_room (Nat.le_of_ble_eq_true rfl)) dX10_near_29 ⟨Nat.zero_le _, Nat.zero_le _⟩)) (fun r5 hr5 => ?_)
    subst hr5
    refine pc_calli (va_runV (As := [.int (zI (10)), .int (zI ((i : Int))), .int (zI ((j : Int))), .int (zI (y)), .int (zI (1 + max (sD S i) (sD S j)))]) (rest := []) ⟨hx, hb, hml, hown, hts⟩ (kX10_make l D k L Fr3 S hO a 0 A1 A2 A3 A4 A5 A6 A7 A8 A9 A10 hMr3 (by omega) hY 10 ((i : Int)) ((j : Int)) y (1 + max (sD S i) (sD S j)) (by omega) n0 _) (cwV 5 hts gX10_near_X10_make rfl rfl rfl (by decide +kernel) ⟨Nat.le_of_ble_eq_true rfl, Nat.le_of_ble_eq_true rfl⟩) (pc_preV hC hP (Nat.le_trans hn9 hS.1) hD hAn (pl_recv hK hP (hMr3.2.2.2.2.2.2.2.2.2.2.2.1 0 (by decide)) hMr3.1 (ci := 9) (q := (RX10, TX10, 13)) rfl)) rfl rfl hl.1 rfl (lv_room (Nat.le_of_ble_eq_true rfl)) dX10_near_32 ⟨Nat.zero_le _, Nat.zero_le _⟩) hD hS hA (fun r6 ur6 H locs hr6 hP hD hS hzr6 => ?_)
    obtain ⟨hvr6, Fr6, hwr6, hMr6⟩ := hr6
    have hvr6 : r6 = zI (sC S : Int) := hvr6
    subst hvr6
    have hwr6 : ur6 = va_pl L Fr6 := hwr6
    subst hwr6
    refine lv_goto (tgt := 39) hx hb dX10_near_35 (by decide) ?_
    rw [hQ]
    exact pc_iret hx hb hrt hP (by rw [← hAd]; exact hD) (by rw [← hAd]; exact hS) (⟨rfl, _, _, _, _, _, _, rfl, by rw [show ((sC S + 1 : Nat) : Int) = (sC S : Int) + 1 by omega]; exact hMr6, mSync.node hY 10 i j y (1 + max (sD S i) (sD S j)) (rfl) (rfl) (fun _ _ => rfl) rfl (rfl)⟩) dX10_near_39 hlocks

set_option maxHeartbeats 4000000 in
set_option maxRecDepth 100000 in
theorem kX10_near_n1 (l : Launch) (D : va_G) (k : Nat → ClassId) (L : List Nat) (f : Nat → va_E) (S : SA) (hO : aOK S) (a : Nat → Nat) (tw : Int) (A1 A2 A3 A4 A5 A6 A7 A8 A9 A10 : Nat → Int32) (hM : mRep k L f a tw ((sN S)) ((sC S : Int)) A1 A2 A3 A4 A5 A6 A7 A8 A9 A10) (hMT : 0 ≤ tw ∧ tw ≤ 3) (hY : mSync S A1 A2 A3 A4 A5 A6 A7) (z : Int) (hz : -2147483648 ≤ z ∧ z < 2147483648) (y : Int) (hy : -2147483648 ≤ y ∧ y < 2147483648) (hzy : ¬ ((0 ≤ z ∧ z < (sC S : Int)) ∧ (0 ≤ y ∧ y < (sC S : Int)))) (x : Int) (hx : -2147483648 ≤ x ∧ x < 2147483648) (n0 sz : Nat) : Met l yX10_near wsX10_near ({ frames := 3, cells := 0, slots := 0, locals := 67 } : Room) (va_Pc [.ref (a 0), .int (zI (z)), .int (zI (y)), .int (zI (x))] (pPre D (tyL k) n0 (va_pl L f) sz)) (va_Qi (fun _ u => ∃ F : Nat → va_E, u = va_pl L F ∧ mRep k L F a 1 ((sN S)) ((sC S : Int)) A1 A2 A3 A4 A5 A6 A7 A8 A9 A10) (pB D (va_pl L f) sz) (va_A (va_pl L f) sz)) 0 0 (va_A (va_pl L f) sz) := by
  refine Met.ofW (cc := cX10_near) (maxL := 4) (ret := (some .int)) (by decide) rfl ?_
  intro p e s m args below meth c s₁ B hml hv
  obtain ⟨rfl, hsz, hn9, hP, hC, hD0⟩ := hv
  have hK := hC.1
  have hNW := hC.2.1
  have hx := B.exec
  have hb := B.bytes
  have hrt := B.returns
  have hts := atoms_spec (ws := wsX10_near) B.pre
  have hown : s.vm.findClass RX10 = some m.cls := findClass_of_methodNamed B.named
  have hlocks := B.notSynchronized
  subst hsz
  obtain ⟨A, hAd⟩ : ∃ A, A = va_A (va_pl L f) s.heap.size := ⟨_, rfl⟩
  have hD := hD0.self (sz := s.heap.size)
  rw [← hAd] at hD
  have hA : ∀ q : Nat, s.heap.size ≤ q → A q := fun q h => by rw [hAd]; exact Or.inr h
  have hAn : ∀ q : Nat, A q → n0 ≤ q := fun q h => by
    rw [hAd] at h
    rcases h with ⟨k9, e9, hk9⟩ | h
    · exact hD0.2 k9 _ hk9
    · exact Nat.le_trans hn9 h
  have hS : va_S A s.heap s.heap [] := va_S.rf
  have hl := lv_entry ([.ref (a 0), .int (zI (z)), .int (zI (y)), .int (zI (x))]) (n := 4) (Nat.le_of_ble_eq_true rfl)
  rw [lg_entry_eq]
  generalize (lg_sl ([.ref (a 0), .int (zI (z)), .int (zI (y)), .int (zI (x))]) ++ List.replicate (4 - (lg_sl ([.ref (a 0), .int (zI (z)), .int (zI (y)), .int (zI (x))])).length) Slot.unset).toArray = ls at hl ⊢
  have hl : lv_has ls 4 [(0, .ref (a 0)), (1, .int (zI (z))), (2, .int (zI (y))), (3, .int (zI (x)))] := hl
  obtain ⟨Q, hQ⟩ : ∃ Q, Q = MQ below (va_Qi (fun _ u => ∃ F : Nat → va_E, u = va_pl L F ∧ mRep k L F a 1 ((sN S)) ((sC S : Int)) A1 A2 A3 A4 A5 A6 A7 A8 A9 A10) (pB D (va_pl L f) s.heap.size) (va_A (va_pl L f) s.heap.size)) ([.ref (a 0), .int (zI (z)), .int (zI (y)), .int (zI (x))] : List Value).toArray s 0 0 (va_A (va_pl L f) s.heap.size) := ⟨_, rfl⟩
  rw [← hQ]
  have hMN := hO.1
  have hMC : 0 ≤ (sC S : Int) ∧ (sC S : Int) ≤ 30 := by have h8 := hO.2.2.2.1; omega
  refine lv_aload_n hx hb dX10_near_0 rfl (lv_at hl 0 rfl) ?_
  refine lv_aload_n hx hb dX10_near_1 rfl (lv_at hl 0 rfl) ?_
  refine lv_iload_n hx hb dX10_near_2 rfl (lv_at hl 1 rfl) ?_
  refine lv_iload_n hx hb dX10_near_3 rfl (lv_at hl 2 rfl) ?_
  refine lv_iload_n hx hb dX10_near_4 rfl (lv_at hl 3 rfl) ?_
  refine zr_const hx hb dX10_near_5 ?_
  refine zr_bipush hx hb dX10_near_6 (by decide) ?_
  refine vp_callSi (va_Run.run (va_runS (As := [.int (zI (x)), .int (zI (0)), .int (zI (24))]) (rest := [.int (zI (y)), .int (zI (z)), .ref (a 0), .ref (a 0)]) ⟨hx, hb, hml, hown, hts⟩ (kX10_in l D k L f (x) (by omega) (0) (by omega) (24) (by omega)) (va_cwS 3 hts gX10_near_X10_in rfl rfl rfl (by decide +kernel) ⟨Nat.le_of_ble_eq_true rfl, Nat.le_of_ble_eq_true rfl⟩) (rc_preS hC hP) rfl rfl hl.1 rfl (lv_room (Nat.le_of_ble_eq_true rfl)) dX10_near_8 ⟨Nat.zero_le _, Nat.zero_le _⟩)) (fun r1 hr1 => ?_)
  subst hr1
  refine vp_callSi (va_Run.run (va_runV (As := [.int (zI (z)), .int (zI (y)), .int (bI (inB x 0 24))]) (rest := [.ref (a 0)]) ⟨hx, hb, hml, hown, hts⟩ (kX10_reason_1 l D k L f S hO a tw A1 A2 A3 A4 A5 A6 A7 A8 A9 A10 hM (by omega) hY z (by omega) y (by omega) hzy (inB x 0 24)) (cwV 3 hts gX10_near_X10_reason rfl rfl rfl (by decide +kernel) ⟨Nat.le_of_ble_eq_true rfl, Nat.le_of_ble_eq_true rfl⟩) (rc_preV hC hP (pl_recv hK hP (hM.2.2.2.2.2.2.2.2.2.2.2.1 0 (by decide)) hM.1 (ci := 9) (q := (RX10, TX10, 13)) rfl)) rfl rfl hl.1 rfl (lv_room (Nat.le_of_ble_eq_true rfl)) dX10_near_11 ⟨Nat.zero_le _, Nat.zero_le _⟩)) (fun r2 hr2 => ?_)
  subst hr2
  refine pc_calli (va_runV (As := [.int (zI (1))]) (rest := []) ⟨hx, hb, hml, hown, hts⟩ (kX10_goesWell l D k L f a tw ((sN S)) ((sC S : Int)) A1 A2 A3 A4 A5 A6 A7 A8 A9 A10 hM (by omega) (by omega) (by omega) (1) (by omega) n0 _) (cwV 1 hts gX10_near_X10_goesWell rfl rfl rfl (by decide +kernel) ⟨Nat.le_of_ble_eq_true rfl, Nat.le_of_ble_eq_true rfl⟩) (pc_preV hC hP (Nat.le_trans hn9 hS.1) hD hAn (pl_recv hK hP (hM.2.2.2.2.2.2.2.2.2.2.2.1 0 (by decide)) hM.1 (ci := 9) (q := (RX10, TX10, 13)) rfl)) rfl rfl hl.1 rfl (lv_room (Nat.le_of_ble_eq_true rfl)) dX10_near_14 ⟨Nat.zero_le _, Nat.zero_le _⟩) hD hS hA (fun r3 ur3 H locs hr3 hP hD hS hzr3 => ?_)
  obtain ⟨hvr3, Fr3, hwr3, hMr3⟩ := hr3
  have hvr3 : r3 = bI (decide ((1 : Int) = 0)) := hvr3
  subst hvr3
  have hwr3 : ur3 = va_pl L Fr3 := hwr3
  subst hwr3
  refine zr_ifb_eq (tgt := 38) hx hb dX10_near_17 (by decide) (fun c4 => ?_) (fun c4 => ?_)
  · refine zr_const hx hb dX10_near_38 ?_
    rw [hQ]
    exact pc_iret hx hb hrt hP (by rw [← hAd]; exact hD) (by rw [← hAd]; exact hS) (⟨_, rfl, hMr3⟩) dX10_near_39 hlocks
  · exact absurd c4 (by decide)

set_option maxHeartbeats 4000000 in
set_option maxRecDepth 100000 in
theorem kX10_near_n2 (l : Launch) (D : va_G) (k : Nat → ClassId) (L : List Nat) (f : Nat → va_E) (S : SA) (hO : aOK S) (a : Nat → Nat) (tw : Int) (A1 A2 A3 A4 A5 A6 A7 A8 A9 A10 : Nat → Int32) (hM : mRep k L f a tw ((sN S)) ((sC S : Int)) A1 A2 A3 A4 A5 A6 A7 A8 A9 A10) (hMT : 0 ≤ tw ∧ tw ≤ 3) (hY : mSync S A1 A2 A3 A4 A5 A6 A7) (i : Nat) (hi : i < sC S) (j : Nat) (hj : j < sC S) (x : Int) (hx : -2147483648 ≤ x ∧ x < 2147483648) (hr9 : ¬ (0 ≤ x ∧ x ≤ 24)) (n0 sz : Nat) : Met l yX10_near wsX10_near ({ frames := 3, cells := 0, slots := 0, locals := 67 } : Room) (va_Pc [.ref (a 0), .int (zI ((i : Int))), .int (zI ((j : Int))), .int (zI (x))] (pPre D (tyL k) n0 (va_pl L f) sz)) (va_Qi (fun _ u => ∃ F : Nat → va_E, u = va_pl L F ∧ mRep k L F a 2 ((sN S)) ((sC S : Int)) A1 A2 A3 A4 A5 A6 A7 A8 A9 A10) (pB D (va_pl L f) sz) (va_A (va_pl L f) sz)) 0 0 (va_A (va_pl L f) sz) := by
  refine Met.ofW (cc := cX10_near) (maxL := 4) (ret := (some .int)) (by decide) rfl ?_
  intro p e s m args below meth c s₁ B hml hv
  obtain ⟨rfl, hsz, hn9, hP, hC, hD0⟩ := hv
  have hK := hC.1
  have hNW := hC.2.1
  have hx := B.exec
  have hb := B.bytes
  have hrt := B.returns
  have hts := atoms_spec (ws := wsX10_near) B.pre
  have hown : s.vm.findClass RX10 = some m.cls := findClass_of_methodNamed B.named
  have hlocks := B.notSynchronized
  subst hsz
  obtain ⟨A, hAd⟩ : ∃ A, A = va_A (va_pl L f) s.heap.size := ⟨_, rfl⟩
  have hD := hD0.self (sz := s.heap.size)
  rw [← hAd] at hD
  have hA : ∀ q : Nat, s.heap.size ≤ q → A q := fun q h => by rw [hAd]; exact Or.inr h
  have hAn : ∀ q : Nat, A q → n0 ≤ q := fun q h => by
    rw [hAd] at h
    rcases h with ⟨k9, e9, hk9⟩ | h
    · exact hD0.2 k9 _ hk9
    · exact Nat.le_trans hn9 h
  have hS : va_S A s.heap s.heap [] := va_S.rf
  have hl := lv_entry ([.ref (a 0), .int (zI ((i : Int))), .int (zI ((j : Int))), .int (zI (x))]) (n := 4) (Nat.le_of_ble_eq_true rfl)
  rw [lg_entry_eq]
  generalize (lg_sl ([.ref (a 0), .int (zI ((i : Int))), .int (zI ((j : Int))), .int (zI (x))]) ++ List.replicate (4 - (lg_sl ([.ref (a 0), .int (zI ((i : Int))), .int (zI ((j : Int))), .int (zI (x))])).length) Slot.unset).toArray = ls at hl ⊢
  have hl : lv_has ls 4 [(0, .ref (a 0)), (1, .int (zI ((i : Int)))), (2, .int (zI ((j : Int)))), (3, .int (zI (x)))] := hl
  obtain ⟨Q, hQ⟩ : ∃ Q, Q = MQ below (va_Qi (fun _ u => ∃ F : Nat → va_E, u = va_pl L F ∧ mRep k L F a 2 ((sN S)) ((sC S : Int)) A1 A2 A3 A4 A5 A6 A7 A8 A9 A10) (pB D (va_pl L f) s.heap.size) (va_A (va_pl L f) s.heap.size)) ([.ref (a 0), .int (zI ((i : Int))), .int (zI ((j : Int))), .int (zI (x))] : List Value).toArray s 0 0 (va_A (va_pl L f) s.heap.size) := ⟨_, rfl⟩
  rw [← hQ]
  have hMN := hO.1
  have hMC : 0 ≤ (sC S : Int) ∧ (sC S : Int) ≤ 30 := by have h8 := hO.2.2.2.1; omega
  refine lv_aload_n hx hb dX10_near_0 rfl (lv_at hl 0 rfl) ?_
  refine lv_aload_n hx hb dX10_near_1 rfl (lv_at hl 0 rfl) ?_
  refine lv_iload_n hx hb dX10_near_2 rfl (lv_at hl 1 rfl) ?_
  refine lv_iload_n hx hb dX10_near_3 rfl (lv_at hl 2 rfl) ?_
  refine lv_iload_n hx hb dX10_near_4 rfl (lv_at hl 3 rfl) ?_
  refine zr_const hx hb dX10_near_5 ?_
  refine zr_bipush hx hb dX10_near_6 (by decide) ?_
  refine vp_callSi (va_Run.run (va_runS (As := [.int (zI (x)), .int (zI (0)), .int (zI (24))]) (rest := [.int (zI ((j : Int))), .int (zI ((i : Int))), .ref (a 0), .ref (a 0)]) ⟨hx, hb, hml, hown, hts⟩ (kX10_in l D k L f (x) (by omega) (0) (by omega) (24) (by omega)) (va_cwS 3 hts gX10_near_X10_in rfl rfl rfl (by decide +kernel) ⟨Nat.le_of_ble_eq_true rfl, Nat.le_of_ble_eq_true rfl⟩) (rc_preS hC hP) rfl rfl hl.1 rfl (lv_room (Nat.le_of_ble_eq_true rfl)) dX10_near_8 ⟨Nat.zero_le _, Nat.zero_le _⟩)) (fun r1 hr1 => ?_)
  subst hr1
  refine vp_callSi (va_Run.run (va_runV (As := [.int (zI ((i : Int))), .int (zI ((j : Int))), .int (bI (inB x 0 24))]) (rest := [.ref (a 0)]) ⟨hx, hb, hml, hown, hts⟩ (kX10_reason_2 l D k L f S hO a tw A1 A2 A3 A4 A5 A6 A7 A8 A9 A10 hM (by omega) hY i hi j hj (inB x 0 24) (inB_f (by omega))) (cwV 3 hts gX10_near_X10_reason rfl rfl rfl (by decide +kernel) ⟨Nat.le_of_ble_eq_true rfl, Nat.le_of_ble_eq_true rfl⟩) (rc_preV hC hP (pl_recv hK hP (hM.2.2.2.2.2.2.2.2.2.2.2.1 0 (by decide)) hM.1 (ci := 9) (q := (RX10, TX10, 13)) rfl)) rfl rfl hl.1 rfl (lv_room (Nat.le_of_ble_eq_true rfl)) dX10_near_11 ⟨Nat.zero_le _, Nat.zero_le _⟩)) (fun r2 hr2 => ?_)
  subst hr2
  refine pc_calli (va_runV (As := [.int (zI (2))]) (rest := []) ⟨hx, hb, hml, hown, hts⟩ (kX10_goesWell l D k L f a tw ((sN S)) ((sC S : Int)) A1 A2 A3 A4 A5 A6 A7 A8 A9 A10 hM (by omega) (by omega) (by omega) (2) (by omega) n0 _) (cwV 1 hts gX10_near_X10_goesWell rfl rfl rfl (by decide +kernel) ⟨Nat.le_of_ble_eq_true rfl, Nat.le_of_ble_eq_true rfl⟩) (pc_preV hC hP (Nat.le_trans hn9 hS.1) hD hAn (pl_recv hK hP (hM.2.2.2.2.2.2.2.2.2.2.2.1 0 (by decide)) hM.1 (ci := 9) (q := (RX10, TX10, 13)) rfl)) rfl rfl hl.1 rfl (lv_room (Nat.le_of_ble_eq_true rfl)) dX10_near_14 ⟨Nat.zero_le _, Nat.zero_le _⟩) hD hS hA (fun r3 ur3 H locs hr3 hP hD hS hzr3 => ?_)
  obtain ⟨hvr3, Fr3, hwr3, hMr3⟩ := hr3
  have hvr3 : r3 = bI (decide ((2 : Int) = 0)) := hvr3
  subst hvr3
  have hwr3 : ur3 = va_pl L Fr3 := hwr3
  subst hwr3
  refine zr_ifb_eq (tgt := 38) hx hb dX10_near_17 (by decide) (fun c4 => ?_) (fun c4 => ?_)
  · refine zr_const hx hb dX10_near_38 ?_
    rw [hQ]
    exact pc_iret hx hb hrt hP (by rw [← hAd]; exact hD) (by rw [← hAd]; exact hS) (⟨_, rfl, hMr3⟩) dX10_near_39 hlocks
  · exact absurd c4 (by decide)

set_option maxHeartbeats 4000000 in
set_option maxRecDepth 100000 in
theorem kX10_near_n3 (l : Launch) (D : va_G) (k : Nat → ClassId) (L : List Nat) (f : Nat → va_E) (S : SA) (hO : aOK S) (a : Nat → Nat) (tw : Int) (A1 A2 A3 A4 A5 A6 A7 A8 A9 A10 : Nat → Int32) (hM : mRep k L f a tw ((sN S)) ((sC S : Int)) A1 A2 A3 A4 A5 A6 A7 A8 A9 A10) (hMT : 0 ≤ tw ∧ tw ≤ 3) (hY : mSync S A1 A2 A3 A4 A5 A6 A7) (i : Nat) (hi : i < sC S) (j : Nat) (hj : j < sC S) (x : Int) (hx : 0 ≤ x ∧ x ≤ 24) (h3 : sC S = 30 ∨ 6 < 1 + max (sD S i) (sD S j)) (n0 sz : Nat) : Met l yX10_near wsX10_near ({ frames := 3, cells := 0, slots := 0, locals := 67 } : Room) (va_Pc [.ref (a 0), .int (zI ((i : Int))), .int (zI ((j : Int))), .int (zI (x))] (pPre D (tyL k) n0 (va_pl L f) sz)) (va_Qi (fun _ u => ∃ F : Nat → va_E, u = va_pl L F ∧ mRep k L F a 3 ((sN S)) ((sC S : Int)) A1 A2 A3 A4 A5 A6 A7 A8 A9 A10) (pB D (va_pl L f) sz) (va_A (va_pl L f) sz)) 0 0 (va_A (va_pl L f) sz) := by
  refine Met.ofW (cc := cX10_near) (maxL := 4) (ret := (some .int)) (by decide) rfl ?_
  intro p e s m args below meth c s₁ B hml hv
  obtain ⟨rfl, hsz, hn9, hP, hC, hD0⟩ := hv
  have hK := hC.1
  have hNW := hC.2.1
  have hx := B.exec
  have hb := B.bytes
  have hrt := B.returns
  have hts := atoms_spec (ws := wsX10_near) B.pre
  have hown : s.vm.findClass RX10 = some m.cls := findClass_of_methodNamed B.named
  have hlocks := B.notSynchronized
  subst hsz
  obtain ⟨A, hAd⟩ : ∃ A, A = va_A (va_pl L f) s.heap.size := ⟨_, rfl⟩
  have hD := hD0.self (sz := s.heap.size)
  rw [← hAd] at hD
  have hA : ∀ q : Nat, s.heap.size ≤ q → A q := fun q h => by rw [hAd]; exact Or.inr h
  have hAn : ∀ q : Nat, A q → n0 ≤ q := fun q h => by
    rw [hAd] at h
    rcases h with ⟨k9, e9, hk9⟩ | h
    · exact hD0.2 k9 _ hk9
    · exact Nat.le_trans hn9 h
  have hS : va_S A s.heap s.heap [] := va_S.rf
  have hl := lv_entry ([.ref (a 0), .int (zI ((i : Int))), .int (zI ((j : Int))), .int (zI (x))]) (n := 4) (Nat.le_of_ble_eq_true rfl)
  rw [lg_entry_eq]
  generalize (lg_sl ([.ref (a 0), .int (zI ((i : Int))), .int (zI ((j : Int))), .int (zI (x))]) ++ List.replicate (4 - (lg_sl ([.ref (a 0), .int (zI ((i : Int))), .int (zI ((j : Int))), .int (zI (x))])).length) Slot.unset).toArray = ls at hl ⊢
  have hl : lv_has ls 4 [(0, .ref (a 0)), (1, .int (zI ((i : Int)))), (2, .int (zI ((j : Int)))), (3, .int (zI (x)))] := hl
  obtain ⟨Q, hQ⟩ : ∃ Q, Q = MQ below (va_Qi (fun _ u => ∃ F : Nat → va_E, u = va_pl L F ∧ mRep k L F a 3 ((sN S)) ((sC S : Int)) A1 A2 A3 A4 A5 A6 A7 A8 A9 A10) (pB D (va_pl L f) s.heap.size) (va_A (va_pl L f) s.heap.size)) ([.ref (a 0), .int (zI ((i : Int))), .int (zI ((j : Int))), .int (zI (x))] : List Value).toArray s 0 0 (va_A (va_pl L f) s.heap.size) := ⟨_, rfl⟩
  rw [← hQ]
  have hMN := hO.1
  have hMC : 0 ≤ (sC S : Int) ∧ (sC S : Int) ≤ 30 := by have h8 := hO.2.2.2.1; omega
  refine lv_aload_n hx hb dX10_near_0 rfl (lv_at hl 0 rfl) ?_
  refine lv_aload_n hx hb dX10_near_1 rfl (lv_at hl 0 rfl) ?_
  refine lv_iload_n hx hb dX10_near_2 rfl (lv_at hl 1 rfl) ?_
  refine lv_iload_n hx hb dX10_near_3 rfl (lv_at hl 2 rfl) ?_
  refine lv_iload_n hx hb dX10_near_4 rfl (lv_at hl 3 rfl) ?_
  refine zr_const hx hb dX10_near_5 ?_
  refine zr_bipush hx hb dX10_near_6 (by decide) ?_
  refine vp_callSi (va_Run.run (va_runS (As := [.int (zI (x)), .int (zI (0)), .int (zI (24))]) (rest := [.int (zI ((j : Int))), .int (zI ((i : Int))), .ref (a 0), .ref (a 0)]) ⟨hx, hb, hml, hown, hts⟩ (kX10_in l D k L f (x) (by omega) (0) (by omega) (24) (by omega)) (va_cwS 3 hts gX10_near_X10_in rfl rfl rfl (by decide +kernel) ⟨Nat.le_of_ble_eq_true rfl, Nat.le_of_ble_eq_true rfl⟩) (rc_preS hC hP) rfl rfl hl.1 rfl (lv_room (Nat.le_of_ble_eq_true rfl)) dX10_near_8 ⟨Nat.zero_le _, Nat.zero_le _⟩)) (fun r1 hr1 => ?_)
  subst hr1
  refine vp_callSi (va_Run.run (va_runV (As := [.int (zI ((i : Int))), .int (zI ((j : Int))), .int (bI (inB x 0 24))]) (rest := [.ref (a 0)]) ⟨hx, hb, hml, hown, hts⟩ (kX10_reason_3 l D k L f S hO a tw A1 A2 A3 A4 A5 A6 A7 A8 A9 A10 hM (by omega) hY i hi j hj (inB x 0 24) (inB_t (by omega)) h3) (cwV 3 hts gX10_near_X10_reason rfl rfl rfl (by decide +kernel) ⟨Nat.le_of_ble_eq_true rfl, Nat.le_of_ble_eq_true rfl⟩) (rc_preV hC hP (pl_recv hK hP (hM.2.2.2.2.2.2.2.2.2.2.2.1 0 (by decide)) hM.1 (ci := 9) (q := (RX10, TX10, 13)) rfl)) rfl rfl hl.1 rfl (lv_room (Nat.le_of_ble_eq_true rfl)) dX10_near_11 ⟨Nat.zero_le _, Nat.zero_le _⟩)) (fun r2 hr2 => ?_)
  subst hr2
  refine pc_calli (va_runV (As := [.int (zI (3))]) (rest := []) ⟨hx, hb, hml, hown, hts⟩ (kX10_goesWell l D k L f a tw ((sN S)) ((sC S : Int)) A1 A2 A3 A4 A5 A6 A7 A8 A9 A10 hM (by omega) (by omega) (by omega) (3) (by omega) n0 _) (cwV 1 hts gX10_near_X10_goesWell rfl rfl rfl (by decide +kernel) ⟨Nat.le_of_ble_eq_true rfl, Nat.le_of_ble_eq_true rfl⟩) (pc_preV hC hP (Nat.le_trans hn9 hS.1) hD hAn (pl_recv hK hP (hM.2.2.2.2.2.2.2.2.2.2.2.1 0 (by decide)) hM.1 (ci := 9) (q := (RX10, TX10, 13)) rfl)) rfl rfl hl.1 rfl (lv_room (Nat.le_of_ble_eq_true rfl)) dX10_near_14 ⟨Nat.zero_le _, Nat.zero_le _⟩) hD hS hA (fun r3 ur3 H locs hr3 hP hD hS hzr3 => ?_)
  obtain ⟨hvr3, Fr3, hwr3, hMr3⟩ := hr3
  have hvr3 : r3 = bI (decide ((3 : Int) = 0)) := hvr3
  subst hvr3
  have hwr3 : ur3 = va_pl L Fr3 := hwr3
  subst hwr3
  refine zr_ifb_eq (tgt := 38) hx hb dX10_near_17 (by decide) (fun c4 => ?_) (fun c4 => ?_)
  · refine zr_const hx hb dX10_near_38 ?_
    rw [hQ]
    exact pc_iret hx hb hrt hP (by rw [← hAd]; exact hD) (by rw [← hAd]; exact hS) (⟨_, rfl, hMr3⟩) dX10_near_39 hlocks
  · exact absurd c4 (by decide)

set_option maxHeartbeats 4000000 in
set_option maxRecDepth 100000 in
theorem kX10_only (l : Launch) (D : va_G) (k : Nat → ClassId) (L : List Nat) (f : Nat → va_E) (S : SA) (hO : aOK S) (a : Nat → Nat) (tw : Int) (A1 A2 A3 A4 A5 A6 A7 A8 A9 A10 : Nat → Int32) (hM : mRep k L f a tw ((sN S)) ((sC S : Int)) A1 A2 A3 A4 A5 A6 A7 A8 A9 A10) (hMT : 0 ≤ tw ∧ tw ≤ 3) (hY : mSync S A1 A2 A3 A4 A5 A6 A7) (i : Nat) (hi : i < sC S) (b9 : Bool) (hc : sC S < 30) (hdp : 1 + max (sD S i) (sD S i) ≤ 6) (n0 sz : Nat) : Met l yX10_only wsX10_only ({ frames := 2, cells := 0, slots := 0, locals := 43 } : Room) (va_Pc [.ref (a 0), .int (zI ((i : Int))), .int (bI (b9))] (pPre D (tyL k) n0 (va_pl L f) sz)) (va_Qi (fun r9 u => r9 = zI (sC S : Int) ∧ ∃ (F : Nat → va_E) (B3 B4 B5 B6 B7 : Nat → Int32), u = va_pl L F ∧ mRep k L F a 0 ((sN S)) (((sC S + 1 : Nat) : Int)) A1 A2 B3 B4 B5 B6 B7 A8 A9 A10 ∧ mSync (addS S (if b9 then 14 else 13) i i 0 (1 + max (sD S i) (sD S i))) A1 A2 B3 B4 B5 B6 B7) (pB D (va_pl L f) sz) (va_A (va_pl L f) sz)) 0 0 (va_A (va_pl L f) sz) := by
  refine Met.ofW (cc := cX10_only) (maxL := 4) (ret := (some .int)) (by decide) rfl ?_
  intro p e s m args below meth c s₁ B hml hv
  obtain ⟨rfl, hsz, hn9, hP, hC, hD0⟩ := hv
  have hK := hC.1
  have hNW := hC.2.1
  have hx := B.exec
  have hb := B.bytes
  have hrt := B.returns
  have hts := atoms_spec (ws := wsX10_only) B.pre
  have hown : s.vm.findClass RX10 = some m.cls := findClass_of_methodNamed B.named
  have hlocks := B.notSynchronized
  subst hsz
  obtain ⟨A, hAd⟩ : ∃ A, A = va_A (va_pl L f) s.heap.size := ⟨_, rfl⟩
  have hD := hD0.self (sz := s.heap.size)
  rw [← hAd] at hD
  have hA : ∀ q : Nat, s.heap.size ≤ q → A q := fun q h => by rw [hAd]; exact Or.inr h
  have hAn : ∀ q : Nat, A q → n0 ≤ q := fun q h => by
    rw [hAd] at h
    rcases h with ⟨k9, e9, hk9⟩ | h
    · exact hD0.2 k9 _ hk9
    · exact Nat.le_trans hn9 h
  have hS : va_S A s.heap s.heap [] := va_S.rf
  have hi_X10 : ∀ w ∈ u_ws RX10 TX10 13, w ∈ wsX10_only := by decide +kernel
  have hw_0 := hts (.fieldLink RX10 49 "RegionryModel" "nodes" "I") (by decide +kernel)
  have hw_1 := hts (.fieldLink RX10 28 "RegionryModel" "depths" "[I") (by decide +kernel)
  have hl := lv_entry ([.ref (a 0), .int (zI ((i : Int))), .int (bI (b9))]) (n := 4) (Nat.le_of_ble_eq_true rfl)
  rw [lg_entry_eq]
  generalize (lg_sl ([.ref (a 0), .int (zI ((i : Int))), .int (bI (b9))]) ++ List.replicate (4 - (lg_sl ([.ref (a 0), .int (zI ((i : Int))), .int (bI (b9))])).length) Slot.unset).toArray = ls at hl ⊢
  have hl : lv_has ls 4 [(0, .ref (a 0)), (1, .int (zI ((i : Int)))), (2, .int (bI (b9)))] := hl
  obtain ⟨Q, hQ⟩ : ∃ Q, Q = MQ below (va_Qi (fun r9 u => r9 = zI (sC S : Int) ∧ ∃ (F : Nat → va_E) (B3 B4 B5 B6 B7 : Nat → Int32), u = va_pl L F ∧ mRep k L F a 0 ((sN S)) (((sC S + 1 : Nat) : Int)) A1 A2 B3 B4 B5 B6 B7 A8 A9 A10 ∧ mSync (addS S (if b9 then 14 else 13) i i 0 (1 + max (sD S i) (sD S i))) A1 A2 B3 B4 B5 B6 B7) (pB D (va_pl L f) s.heap.size) (va_A (va_pl L f) s.heap.size)) ([.ref (a 0), .int (zI ((i : Int))), .int (bI (b9))] : List Value).toArray s 0 0 (va_A (va_pl L f) s.heap.size) := ⟨_, rfl⟩
  rw [← hQ]
  have hMN := hO.1
  have hMC : 0 ≤ (sC S : Int) ∧ (sC S : Int) ≤ 30 := by have h8 := hO.2.2.2.1; omega
  have hd1 := (hO.2.2.2.2 i hi).2.1
  refine lv_aload_n hx hb dX10_only_0 rfl (lv_at hl 0 rfl) ?_
  refine lv_iload_n hx hb dX10_only_1 rfl (lv_at hl 1 rfl) ?_
  refine vp_callSi (va_Run.run (va_runV (As := [.int (zI ((i : Int)))]) (rest := []) ⟨hx, hb, hml, hown, hts⟩ (kX10_isNode l D k L f a tw ((sN S)) ((sC S : Int)) A1 A2 A3 A4 A5 A6 A7 A8 A9 A10 hM (by omega) (by omega) (by omega) ((i : Int)) (by omega)) (cwV 1 hts gX10_only_X10_isNode rfl rfl rfl (by decide +kernel) ⟨Nat.le_of_ble_eq_true rfl, Nat.le_of_ble_eq_true rfl⟩) (rc_preV hC hP (pl_recv hK hP (hM.2.2.2.2.2.2.2.2.2.2.2.1 0 (by decide)) hM.1 (ci := 9) (q := (RX10, TX10, 13)) rfl)) rfl rfl hl.1 rfl (lv_room (Nat.le_of_ble_eq_true rfl)) dX10_only_2 ⟨Nat.zero_le _, Nat.zero_le _⟩)) (fun r1 hr1 => ?_)
  subst hr1
  refine lv_istore_n (lv' := [(3, .int (bI (inB ((i : Int)) 0 (((sC S : Int)) - 1)))), (0, .ref (a 0)), (1, .int (zI ((i : Int)))), (2, .int (bI (b9)))]) hx hb dX10_only_5 rfl hl (by decide) rfl (fun ls hl => ?_)
  refine lv_aload_n hx hb dX10_only_6 rfl (lv_at hl 1 rfl) ?_
  refine lv_iload_n hx hb dX10_only_7 rfl (lv_at hl 0 rfl) ?_
  refine zr_ifb_ne (tgt := 15) hx hb dX10_only_8 (by decide) (fun c2 => ?_) (fun c2 => ?_)
  · have hn_c2 := inB_i c2
    refine lv_aload_n hx hb dX10_only_15 rfl (lv_at hl 1 rfl) ?_
    refine pl_get (ci := 9) (v := .int (zI ((sC S : Int)))) (C := RX10) (T := TX10) (N := 13) hx hb hts hi_X10 hown hK hP (hM.2.2.2.2.2.2.2.2.2.2.2.1 0 (by decide)) hM.1 rfl 4 (by decide) hw_0 (fun _ h9 => h9) rfl dX10_only_16 ?_
    refine zr_bipush hx hb dX10_only_19 (by decide) ?_
    refine zr_icmp_eq (tgt := 35) hx hb dX10_only_21 (by decide) (by omega) (by omega) (fun c3 => ?_) (fun c3 => ?_)
    · exfalso; omega
    · refine lv_aload_n hx hb dX10_only_24 rfl (lv_at hl 1 rfl) ?_
      refine pl_get (ci := 9) (v := .ref (a 7)) (C := RX10) (T := TX10) (N := 13) hx hb hts hi_X10 hown hK hP (hM.2.2.2.2.2.2.2.2.2.2.2.1 0 (by decide)) hM.1 rfl 9 (by decide) hw_1 (fun _ h9 => h9) rfl dX10_only_25 ?_
      refine lv_iload_n hx hb dX10_only_28 rfl (lv_at hl 2 rfl) ?_
      refine pl_iald hx hb hK hP (hM.2.2.2.2.2.2.2.2.2.2.2.1 7 (by decide)) 0 hM.2.2.2.2.2.2.2.1 rfl (i) (by omega) (by omega) (by decide) dX10_only_29 ?_
      refine zr_top (hY.2.2 i hi).2.2.2.2 ?_
      refine zr_bipush hx hb dX10_only_30 (by decide) ?_
      refine zr_icmp_ne (tgt := 39) hx hb dX10_only_32 (by decide) (by omega) (by omega) (fun c4 => ?_) (fun c4 => ?_)
      · refine zr_const hx hb dX10_only_39 ?_
        refine pc_calli (va_runV (As := [.int (zI (0))]) (rest := []) ⟨hx, hb, hml, hown, hts⟩ (kX10_goesWell l D k L f a tw ((sN S)) ((sC S : Int)) A1 A2 A3 A4 A5 A6 A7 A8 A9 A10 hM (by omega) (by omega) (by omega) (0) (by omega) n0 _) (cwV 1 hts gX10_only_X10_goesWell rfl rfl rfl (by decide +kernel) ⟨Nat.le_of_ble_eq_true rfl, Nat.le_of_ble_eq_true rfl⟩) (pc_preV hC hP (Nat.le_trans hn9 hS.1) hD hAn (pl_recv hK hP (hM.2.2.2.2.2.2.2.2.2.2.2.1 0 (by decide)) hM.1 (ci := 9) (q := (RX10, TX10, 13)) rfl)) rfl rfl hl.1 rfl (lv_room (Nat.le_of_ble_eq_true rfl)) dX10_only_40 ⟨Nat.zero_le _, Nat.zero_le _⟩) hD hS hA (fun r5 ur5 H locs hr5 hP hD hS hzr5 => ?_)
        obtain ⟨hvr5, Fr5, hwr5, hMr5⟩ := hr5
        have hvr5 : r5 = bI (decide ((0 : Int) = 0)) := hvr5
        subst hvr5
        have hwr5 : ur5 = va_pl L Fr5 := hwr5
        subst hwr5
        refine zr_ifb_ne (tgt := 48) hx hb dX10_only_43 (by decide) (fun c6 => ?_) (fun c6 => ?_)
        · refine lv_aload_n hx hb dX10_only_48 rfl (lv_at hl 1 rfl) ?_
          refine lv_iload_n hx hb dX10_only_49 rfl (lv_at hl 3 rfl) ?_
          refine zr_ifb_eq (tgt := 58) hx hb dX10_only_50 (by decide) (fun c7 => ?_) (fun c7 => ?_)
          · refine zr_bipush hx hb dX10_only_58 (by decide) ?_
            refine lv_iload_n hx hb dX10_only_60 rfl (lv_at hl 2 rfl) ?_
            refine lv_iload_n hx hb dX10_only_61 rfl (lv_at hl 2 rfl) ?_
            refine zr_const hx hb dX10_only_62 ?_
            refine lv_aload_n hx hb dX10_only_63 rfl (lv_at hl 1 rfl) ?_
            refine pl_get (ci := 9) (v := .ref (a 7)) (C := RX10) (T := TX10) (N := 13) hx hb hts hi_X10 hown hK hP (hMr5.2.2.2.2.2.2.2.2.2.2.2.1 0 (by decide)) hMr5.1 rfl 9 (by decide) hw_1 (fun _ h9 => h9) rfl dX10_only_64 ?_
            refine lv_iload_n hx hb dX10_only_67 rfl (lv_at hl 2 rfl) ?_
            refine pl_iald hx hb hK hP (hMr5.2.2.2.2.2.2.2.2.2.2.2.1 7 (by decide)) 0 hMr5.2.2.2.2.2.2.2.1 rfl (i) (by omega) (by omega) (by decide) dX10_only_68 ?_
            refine zr_top (hY.2.2 i hi).2.2.2.2 ?_
            refine zr_const hx hb dX10_only_69 ?_
            refine zr_add hx hb dX10_only_70 ?_
            refine pc_calli (va_runV (As := [.int (zI (13)), .int (zI ((i : Int))), .int (zI ((i : Int))), .int (zI (0)), .int (zI ((sD S i) + 1))]) (rest := []) ⟨hx, hb, hml, hown, hts⟩ (kX10_make l D k L Fr5 S hO a 0 A1 A2 A3 A4 A5 A6 A7 A8 A9 A10 hMr5 (by omega) hY 13 ((i : Int)) ((i : Int)) 0 ((sD S i) + 1) (by omega) n0 _) (cwV 5 hts gX10_only_X10_make rfl rfl rfl (by decide +kernel) ⟨Nat.le_of_ble_eq_true rfl, Nat.le_of_ble_eq_true rfl⟩) (pc_preV hC hP (Nat.le_trans hn9 hS.1) hD hAn (pl_recv hK hP (hMr5.2.2.2.2.2.2.2.2.2.2.2.1 0 (by decide)) hMr5.1 (ci := 9) (q := (RX10, TX10, 13)) rfl)) rfl rfl hl.1 rfl (lv_room (Nat.le_of_ble_eq_true rfl)) dX10_only_71 ⟨Nat.zero_le _, Nat.zero_le _⟩) hD hS hA (fun r8 ur8 H locs hr8 hP hD hS hzr8 => ?_)
            obtain ⟨hvr8, Fr8, hwr8, hMr8⟩ := hr8
            have hvr8 : r8 = zI (sC S : Int) := hvr8
            subst hvr8
            have hwr8 : ur8 = va_pl L Fr8 := hwr8
            subst hwr8
            rw [hQ]
            exact pc_iret hx hb hrt hP (by rw [← hAd]; exact hD) (by rw [← hAd]; exact hS) (⟨rfl, _, _, _, _, _, _, rfl, by rw [show ((sC S + 1 : Nat) : Int) = (sC S : Int) + 1 by omega]; exact hMr8, mSync.node hY (if b9 then 14 else 13) i i 0 (1 + max (sD S i) (sD S i)) (by rw [show b9 = false by assumption]; rfl) (rfl) (fun _ _ => rfl) rfl (by congr 1; omega)⟩) dX10_only_74 hlocks
          · refine zr_bipush hx hb dX10_only_53 (by decide) ?_
            refine lv_goto (tgt := 60) hx hb dX10_only_55 (by decide) ?_
            refine lv_iload_n hx hb dX10_only_60 rfl (lv_at hl 2 rfl) ?_
            refine lv_iload_n hx hb dX10_only_61 rfl (lv_at hl 2 rfl) ?_
            refine zr_const hx hb dX10_only_62 ?_
            refine lv_aload_n hx hb dX10_only_63 rfl (lv_at hl 1 rfl) ?_
            refine pl_get (ci := 9) (v := .ref (a 7)) (C := RX10) (T := TX10) (N := 13) hx hb hts hi_X10 hown hK hP (hMr5.2.2.2.2.2.2.2.2.2.2.2.1 0 (by decide)) hMr5.1 rfl 9 (by decide) hw_1 (fun _ h9 => h9) rfl dX10_only_64 ?_
            refine lv_iload_n hx hb dX10_only_67 rfl (lv_at hl 2 rfl) ?_
            refine pl_iald hx hb hK hP (hMr5.2.2.2.2.2.2.2.2.2.2.2.1 7 (by decide)) 0 hMr5.2.2.2.2.2.2.2.1 rfl (i) (by omega) (by omega) (by decide) dX10_only_68 ?_
            refine zr_top (hY.2.2 i hi).2.2.2.2 ?_
            refine zr_const hx hb dX10_only_69 ?_
            refine zr_add hx hb dX10_only_70 ?_
            refine pc_calli (va_runV (As := [.int (zI (14)), .int (zI ((i : Int))), .int (zI ((i : Int))), .int (zI (0)), .int (zI ((sD S i) + 1))]) (rest := []) ⟨hx, hb, hml, hown, hts⟩ (kX10_make l D k L Fr5 S hO a 0 A1 A2 A3 A4 A5 A6 A7 A8 A9 A10 hMr5 (by omega) hY 14 ((i : Int)) ((i : Int)) 0 ((sD S i) + 1) (by omega) n0 _) (cwV 5 hts gX10_only_X10_make rfl rfl rfl (by decide +kernel) ⟨Nat.le_of_ble_eq_true rfl, Nat.le_of_ble_eq_true rfl⟩) (pc_preV hC hP (Nat.le_trans hn9 hS.1) hD hAn (pl_recv hK hP (hMr5.2.2.2.2.2.2.2.2.2.2.2.1 0 (by decide)) hMr5.1 (ci := 9) (q := (RX10, TX10, 13)) rfl)) rfl rfl hl.1 rfl (lv_room (Nat.le_of_ble_eq_true rfl)) dX10_only_71 ⟨Nat.zero_le _, Nat.zero_le _⟩) hD hS hA (fun r9 ur9 H locs hr9 hP hD hS hzr9 => ?_)
            obtain ⟨hvr9, Fr9, hwr9, hMr9⟩ := hr9
            have hvr9 : r9 = zI (sC S : Int) := hvr9
            subst hvr9
            have hwr9 : ur9 = va_pl L Fr9 := hwr9
            subst hwr9
            rw [hQ]
            exact pc_iret hx hb hrt hP (by rw [← hAd]; exact hD) (by rw [← hAd]; exact hS) (⟨rfl, _, _, _, _, _, _, rfl, by rw [show ((sC S + 1 : Nat) : Int) = (sC S : Int) + 1 by omega]; exact hMr9, mSync.node hY (if b9 then 14 else 13) i i 0 (1 + max (sD S i) (sD S i)) (by rw [show b9 = true by assumption]; rfl) (rfl) (fun _ _ => rfl) rfl (by congr 1; omega)⟩) dX10_only_74 hlocks
        · exact absurd c6 (by decide)
      · exfalso; omega
  · have hn_c2 := inB_n c2
    exfalso; omega

set_option maxHeartbeats 4000000 in
set_option maxRecDepth 100000 in
theorem kX10_only_n1 (l : Launch) (D : va_G) (k : Nat → ClassId) (L : List Nat) (f : Nat → va_E) (S : SA) (hO : aOK S) (a : Nat → Nat) (tw : Int) (A1 A2 A3 A4 A5 A6 A7 A8 A9 A10 : Nat → Int32) (hM : mRep k L f a tw ((sN S)) ((sC S : Int)) A1 A2 A3 A4 A5 A6 A7 A8 A9 A10) (hMT : 0 ≤ tw ∧ tw ≤ 3) (hY : mSync S A1 A2 A3 A4 A5 A6 A7) (z : Int) (hz : -2147483648 ≤ z ∧ z < 2147483648) (hz2 : ¬ (0 ≤ z ∧ z < (sC S : Int))) (b9 : Bool) (n0 sz : Nat) : Met l yX10_only wsX10_only ({ frames := 2, cells := 0, slots := 0, locals := 43 } : Room) (va_Pc [.ref (a 0), .int (zI (z)), .int (bI (b9))] (pPre D (tyL k) n0 (va_pl L f) sz)) (va_Qi (fun _ u => ∃ F : Nat → va_E, u = va_pl L F ∧ mRep k L F a 1 ((sN S)) ((sC S : Int)) A1 A2 A3 A4 A5 A6 A7 A8 A9 A10) (pB D (va_pl L f) sz) (va_A (va_pl L f) sz)) 0 0 (va_A (va_pl L f) sz) := by
  refine Met.ofW (cc := cX10_only) (maxL := 4) (ret := (some .int)) (by decide) rfl ?_
  intro p e s m args below meth c s₁ B hml hv
  obtain ⟨rfl, hsz, hn9, hP, hC, hD0⟩ := hv
  have hK := hC.1
  have hNW := hC.2.1
  have hx := B.exec
  have hb := B.bytes
  have hrt := B.returns
  have hts := atoms_spec (ws := wsX10_only) B.pre
  have hown : s.vm.findClass RX10 = some m.cls := findClass_of_methodNamed B.named
  have hlocks := B.notSynchronized
  subst hsz
  obtain ⟨A, hAd⟩ : ∃ A, A = va_A (va_pl L f) s.heap.size := ⟨_, rfl⟩
  have hD := hD0.self (sz := s.heap.size)
  rw [← hAd] at hD
  have hA : ∀ q : Nat, s.heap.size ≤ q → A q := fun q h => by rw [hAd]; exact Or.inr h
  have hAn : ∀ q : Nat, A q → n0 ≤ q := fun q h => by
    rw [hAd] at h
    rcases h with ⟨k9, e9, hk9⟩ | h
    · exact hD0.2 k9 _ hk9
    · exact Nat.le_trans hn9 h
  have hS : va_S A s.heap s.heap [] := va_S.rf
  have hl := lv_entry ([.ref (a 0), .int (zI (z)), .int (bI (b9))]) (n := 4) (Nat.le_of_ble_eq_true rfl)
  rw [lg_entry_eq]
  generalize (lg_sl ([.ref (a 0), .int (zI (z)), .int (bI (b9))]) ++ List.replicate (4 - (lg_sl ([.ref (a 0), .int (zI (z)), .int (bI (b9))])).length) Slot.unset).toArray = ls at hl ⊢
  have hl : lv_has ls 4 [(0, .ref (a 0)), (1, .int (zI (z))), (2, .int (bI (b9)))] := hl
  obtain ⟨Q, hQ⟩ : ∃ Q, Q = MQ below (va_Qi (fun _ u => ∃ F : Nat → va_E, u = va_pl L F ∧ mRep k L F a 1 ((sN S)) ((sC S : Int)) A1 A2 A3 A4 A5 A6 A7 A8 A9 A10) (pB D (va_pl L f) s.heap.size) (va_A (va_pl L f) s.heap.size)) ([.ref (a 0), .int (zI (z)), .int (bI (b9))] : List Value).toArray s 0 0 (va_A (va_pl L f) s.heap.size) := ⟨_, rfl⟩
  rw [← hQ]
  have hMN := hO.1
  have hMC : 0 ≤ (sC S : Int) ∧ (sC S : Int) ≤ 30 := by have h8 := hO.2.2.2.1; omega
  refine lv_aload_n hx hb dX10_only_0 rfl (lv_at hl 0 rfl) ?_
  refine lv_iload_n hx hb dX10_only_1 rfl (lv_at hl 1 rfl) ?_
  refine vp_callSi (va_Run.run (va_runV (As := [.int (zI (z))]) (rest := []) ⟨hx, hb, hml, hown, hts⟩ (kX10_isNode l D k L f a tw ((sN S)) ((sC S : Int)) A1 A2 A3 A4 A5 A6 A7 A8 A9 A10 hM (by omega) (by omega) (by omega) (z) (by omega)) (cwV 1 hts gX10_only_X10_isNode rfl rfl rfl (by decide +kernel) ⟨Nat.le_of_ble_eq_true rfl, Nat.le_of_ble_eq_true rfl⟩) (rc_preV hC hP (pl_recv hK hP (hM.2.2.2.2.2.2.2.2.2.2.2.1 0 (by decide)) hM.1 (ci := 9) (q := (RX10, TX10, 13)) rfl)) rfl rfl hl.1 rfl (lv_room (Nat.le_of_ble_eq_true rfl)) dX10_only_2 ⟨Nat.zero_le _, Nat.zero_le _⟩)) (fun r1 hr1 => ?_)
  subst hr1
  refine lv_istore_n (lv' := [(3, .int (bI (inB z 0 (((sC S : Int)) - 1)))), (0, .ref (a 0)), (1, .int (zI (z))), (2, .int (bI (b9)))]) hx hb dX10_only_5 rfl hl (by decide) rfl (fun ls hl => ?_)
  refine lv_aload_n hx hb dX10_only_6 rfl (lv_at hl 1 rfl) ?_
  refine lv_iload_n hx hb dX10_only_7 rfl (lv_at hl 0 rfl) ?_
  refine zr_ifb_ne (tgt := 15) hx hb dX10_only_8 (by decide) (fun c2 => ?_) (fun c2 => ?_)
  · have hn_c2 := inB_i c2
    exfalso; omega
  · have hn_c2 := inB_n c2
    refine zr_const hx hb dX10_only_11 ?_
    refine lv_goto (tgt := 40) hx hb dX10_only_12 (by decide) ?_
    refine pc_calli (va_runV (As := [.int (zI (1))]) (rest := []) ⟨hx, hb, hml, hown, hts⟩ (kX10_goesWell l D k L f a tw ((sN S)) ((sC S : Int)) A1 A2 A3 A4 A5 A6 A7 A8 A9 A10 hM (by omega) (by omega) (by omega) (1) (by omega) n0 _) (cwV 1 hts gX10_only_X10_goesWell rfl rfl rfl (by decide +kernel) ⟨Nat.le_of_ble_eq_true rfl, Nat.le_of_ble_eq_true rfl⟩) (pc_preV hC hP (Nat.le_trans hn9 hS.1) hD hAn (pl_recv hK hP (hM.2.2.2.2.2.2.2.2.2.2.2.1 0 (by decide)) hM.1 (ci := 9) (q := (RX10, TX10, 13)) rfl)) rfl rfl hl.1 rfl (lv_room (Nat.le_of_ble_eq_true rfl)) dX10_only_40 ⟨Nat.zero_le _, Nat.zero_le _⟩) hD hS hA (fun r3 ur3 H locs hr3 hP hD hS hzr3 => ?_)
    obtain ⟨hvr3, Fr3, hwr3, hMr3⟩ := hr3
    have hvr3 : r3 = bI (decide ((1 : Int) = 0)) := hvr3
    subst hvr3
    have hwr3 : ur3 = va_pl L Fr3 := hwr3
    subst hwr3
    refine zr_ifb_ne (tgt := 48) hx hb dX10_only_43 (by decide) (fun c4 => ?_) (fun c4 => ?_)
    · exact absurd c4 (by decide)
    · refine zr_const hx hb dX10_only_46 ?_
      rw [hQ]
      exact pc_iret hx hb hrt hP (by rw [← hAd]; exact hD) (by rw [← hAd]; exact hS) (⟨_, rfl, hMr3⟩) dX10_only_47 hlocks

set_option maxHeartbeats 4000000 in
set_option maxRecDepth 100000 in
theorem kX10_only_n2 (l : Launch) (D : va_G) (k : Nat → ClassId) (L : List Nat) (f : Nat → va_E) (S : SA) (hO : aOK S) (a : Nat → Nat) (tw : Int) (A1 A2 A3 A4 A5 A6 A7 A8 A9 A10 : Nat → Int32) (hM : mRep k L f a tw ((sN S)) ((sC S : Int)) A1 A2 A3 A4 A5 A6 A7 A8 A9 A10) (hMT : 0 ≤ tw ∧ tw ≤ 3) (hY : mSync S A1 A2 A3 A4 A5 A6 A7) (i : Nat) (hi : i < sC S) (b9 : Bool) (h3 : sC S = 30 ∨ 6 < 1 + max (sD S i) (sD S i)) (n0 sz : Nat) : Met l yX10_only wsX10_only ({ frames := 2, cells := 0, slots := 0, locals := 43 } : Room) (va_Pc [.ref (a 0), .int (zI ((i : Int))), .int (bI (b9))] (pPre D (tyL k) n0 (va_pl L f) sz)) (va_Qi (fun _ u => ∃ F : Nat → va_E, u = va_pl L F ∧ mRep k L F a 2 ((sN S)) ((sC S : Int)) A1 A2 A3 A4 A5 A6 A7 A8 A9 A10) (pB D (va_pl L f) sz) (va_A (va_pl L f) sz)) 0 0 (va_A (va_pl L f) sz) := by
  refine Met.ofW (cc := cX10_only) (maxL := 4) (ret := (some .int)) (by decide) rfl ?_
  intro p e s m args below meth c s₁ B hml hv
  obtain ⟨rfl, hsz, hn9, hP, hC, hD0⟩ := hv
  have hK := hC.1
  have hNW := hC.2.1
  have hx := B.exec
  have hb := B.bytes
  have hrt := B.returns
  have hts := atoms_spec (ws := wsX10_only) B.pre
  have hown : s.vm.findClass RX10 = some m.cls := findClass_of_methodNamed B.named
  have hlocks := B.notSynchronized
  subst hsz
  obtain ⟨A, hAd⟩ : ∃ A, A = va_A (va_pl L f) s.heap.size := ⟨_, rfl⟩
  have hD := hD0.self (sz := s.heap.size)
  rw [← hAd] at hD
  have hA : ∀ q : Nat, s.heap.size ≤ q → A q := fun q h => by rw [hAd]; exact Or.inr h
  have hAn : ∀ q : Nat, A q → n0 ≤ q := fun q h => by
    rw [hAd] at h
    rcases h with ⟨k9, e9, hk9⟩ | h
    · exact hD0.2 k9 _ hk9
    · exact Nat.le_trans hn9 h
  have hS : va_S A s.heap s.heap [] := va_S.rf
  have hi_X10 : ∀ w ∈ u_ws RX10 TX10 13, w ∈ wsX10_only := by decide +kernel
  have hw_0 := hts (.fieldLink RX10 49 "RegionryModel" "nodes" "I") (by decide +kernel)
  have hw_1 := hts (.fieldLink RX10 28 "RegionryModel" "depths" "[I") (by decide +kernel)
  have hl := lv_entry ([.ref (a 0), .int (zI ((i : Int))), .int (bI (b9))]) (n := 4) (Nat.le_of_ble_eq_true rfl)
  rw [lg_entry_eq]
  generalize (lg_sl ([.ref (a 0), .int (zI ((i : Int))), .int (bI (b9))]) ++ List.replicate (4 - (lg_sl ([.ref (a 0), .int (zI ((i : Int))), .int (bI (b9))])).length) Slot.unset).toArray = ls at hl ⊢
  have hl : lv_has ls 4 [(0, .ref (a 0)), (1, .int (zI ((i : Int)))), (2, .int (bI (b9)))] := hl
  obtain ⟨Q, hQ⟩ : ∃ Q, Q = MQ below (va_Qi (fun _ u => ∃ F : Nat → va_E, u = va_pl L F ∧ mRep k L F a 2 ((sN S)) ((sC S : Int)) A1 A2 A3 A4 A5 A6 A7 A8 A9 A10) (pB D (va_pl L f) s.heap.size) (va_A (va_pl L f) s.heap.size)) ([.ref (a 0), .int (zI ((i : Int))), .int (bI (b9))] : List Value).toArray s 0 0 (va_A (va_pl L f) s.heap.size) := ⟨_, rfl⟩
  rw [← hQ]
  have hMN := hO.1
  have hMC : 0 ≤ (sC S : Int) ∧ (sC S : Int) ≤ 30 := by have h8 := hO.2.2.2.1; omega
  have hd1 := (hO.2.2.2.2 i hi).2.1
  refine lv_aload_n hx hb dX10_only_0 rfl (lv_at hl 0 rfl) ?_
  refine lv_iload_n hx hb dX10_only_1 rfl (lv_at hl 1 rfl) ?_
  refine vp_callSi (va_Run.run (va_runV (As := [.int (zI ((i : Int)))]) (rest := []) ⟨hx, hb, hml, hown, hts⟩ (kX10_isNode l D k L f a tw ((sN S)) ((sC S : Int)) A1 A2 A3 A4 A5 A6 A7 A8 A9 A10 hM (by omega) (by omega) (by omega) ((i : Int)) (by omega)) (cwV 1 hts gX10_only_X10_isNode rfl rfl rfl (by decide +kernel) ⟨Nat.le_of_ble_eq_true rfl, Nat.le_of_ble_eq_true rfl⟩) (rc_preV hC hP (pl_recv hK hP (hM.2.2.2.2.2.2.2.2.2.2.2.1 0 (by decide)) hM.1 (ci := 9) (q := (RX10, TX10, 13)) rfl)) rfl rfl hl.1 rfl (lv_room (Nat.le_of_ble_eq_true rfl)) dX10_only_2 ⟨Nat.zero_le _, Nat.zero_le _⟩)) (fun r1 hr1 => ?_)
  subst hr1
  refine lv_istore_n (lv' := [(3, .int (bI (inB ((i : Int)) 0 (((sC S : Int)) - 1)))), (0, .ref (a 0)), (1, .int (zI ((i : Int)))), (2, .int (bI (b9)))]) hx hb dX10_only_5 rfl hl (by decide) rfl (fun ls hl => ?_)
  refine lv_aload_n hx hb dX10_only_6 rfl (lv_at hl 1 rfl) ?_
  refine lv_iload_n hx hb dX10_only_7 rfl (lv_at hl 0 rfl) ?_
  refine zr_ifb_ne (tgt := 15) hx hb dX10_only_8 (by decide) (fun c2 => ?_) (fun c2 => ?_)
  · have hn_c2 := inB_i c2
    refine lv_aload_n hx hb dX10_only_15 rfl (lv_at hl 1 rfl) ?_
    refine pl_get (ci := 9) (v := .int (zI ((sC S : Int)))) (C := RX10) (T := TX10) (N := 13) hx hb hts hi_X10 hown hK hP (hM.2.2.2.2.2.2.2.2.2.2.2.1 0 (by decide)) hM.1 rfl 4 (by decide) hw_0 (fun _ h9 => h9) rfl dX10_only_16 ?_
    refine zr_bipush hx hb dX10_only_19 (by decide) ?_
    refine zr_icmp_eq (tgt := 35) hx hb dX10_only_21 (by decide) (by omega) (by omega) (fun c3 => ?_) (fun c3 => ?_)
    · refine zr_const hx hb dX10_only_35 ?_
      refine lv_goto (tgt := 40) hx hb dX10_only_36 (by decide) ?_
      refine pc_calli (va_runV (As := [.int (zI (2))]) (rest := []) ⟨hx, hb, hml, hown, hts⟩ (kX10_goesWell l D k L f a tw ((sN S)) ((sC S : Int)) A1 A2 A3 A4 A5 A6 A7 A8 A9 A10 hM (by omega) (by omega) (by omega) (2) (by omega) n0 _) (cwV 1 hts gX10_only_X10_goesWell rfl rfl rfl (by decide +kernel) ⟨Nat.le_of_ble_eq_true rfl, Nat.le_of_ble_eq_true rfl⟩) (pc_preV hC hP (Nat.le_trans hn9 hS.1) hD hAn (pl_recv hK hP (hM.2.2.2.2.2.2.2.2.2.2.2.1 0 (by decide)) hM.1 (ci := 9) (q := (RX10, TX10, 13)) rfl)) rfl rfl hl.1 rfl (lv_room (Nat.le_of_ble_eq_true rfl)) dX10_only_40 ⟨Nat.zero_le _, Nat.zero_le _⟩) hD hS hA (fun r4 ur4 H locs hr4 hP hD hS hzr4 => ?_)
      obtain ⟨hvr4, Fr4, hwr4, hMr4⟩ := hr4
      have hvr4 : r4 = bI (decide ((2 : Int) = 0)) := hvr4
      subst hvr4
      have hwr4 : ur4 = va_pl L Fr4 := hwr4
      subst hwr4
      refine zr_ifb_ne (tgt := 48) hx hb dX10_only_43 (by decide) (fun c5 => ?_) (fun c5 => ?_)
      · exact absurd c5 (by decide)
      · refine zr_const hx hb dX10_only_46 ?_
        rw [hQ]
        exact pc_iret hx hb hrt hP (by rw [← hAd]; exact hD) (by rw [← hAd]; exact hS) (⟨_, rfl, hMr4⟩) dX10_only_47 hlocks
    · refine lv_aload_n hx hb dX10_only_24 rfl (lv_at hl 1 rfl) ?_
      refine pl_get (ci := 9) (v := .ref (a 7)) (C := RX10) (T := TX10) (N := 13) hx hb hts hi_X10 hown hK hP (hM.2.2.2.2.2.2.2.2.2.2.2.1 0 (by decide)) hM.1 rfl 9 (by decide) hw_1 (fun _ h9 => h9) rfl dX10_only_25 ?_
      refine lv_iload_n hx hb dX10_only_28 rfl (lv_at hl 2 rfl) ?_
      refine pl_iald hx hb hK hP (hM.2.2.2.2.2.2.2.2.2.2.2.1 7 (by decide)) 0 hM.2.2.2.2.2.2.2.1 rfl (i) (by omega) (by omega) (by decide) dX10_only_29 ?_
      refine zr_top (hY.2.2 i hi).2.2.2.2 ?_
      refine zr_bipush hx hb dX10_only_30 (by decide) ?_
      refine zr_icmp_ne (tgt := 39) hx hb dX10_only_32 (by decide) (by omega) (by omega) (fun c6 => ?_) (fun c6 => ?_)
      · exfalso; omega
      · refine zr_const hx hb dX10_only_35 ?_
        refine lv_goto (tgt := 40) hx hb dX10_only_36 (by decide) ?_
        refine pc_calli (va_runV (As := [.int (zI (2))]) (rest := []) ⟨hx, hb, hml, hown, hts⟩ (kX10_goesWell l D k L f a tw ((sN S)) ((sC S : Int)) A1 A2 A3 A4 A5 A6 A7 A8 A9 A10 hM (by omega) (by omega) (by omega) (2) (by omega) n0 _) (cwV 1 hts gX10_only_X10_goesWell rfl rfl rfl (by decide +kernel) ⟨Nat.le_of_ble_eq_true rfl, Nat.le_of_ble_eq_true rfl⟩) (pc_preV hC hP (Nat.le_trans hn9 hS.1) hD hAn (pl_recv hK hP (hM.2.2.2.2.2.2.2.2.2.2.2.1 0 (by decide)) hM.1 (ci := 9) (q := (RX10, TX10, 13)) rfl)) rfl rfl hl.1 rfl (lv_room (Nat.le_of_ble_eq_true rfl)) dX10_only_40 ⟨Nat.zero_le _, Nat.zero_le _⟩) hD hS hA (fun r7 ur7 H locs hr7 hP hD hS hzr7 => ?_)
        obtain ⟨hvr7, Fr7, hwr7, hMr7⟩ := hr7
        have hvr7 : r7 = bI (decide ((2 : Int) = 0)) := hvr7
        subst hvr7
        have hwr7 : ur7 = va_pl L Fr7 := hwr7
        subst hwr7
        refine zr_ifb_ne (tgt := 48) hx hb dX10_only_43 (by decide) (fun c8 => ?_) (fun c8 => ?_)
        · exact absurd c8 (by decide)
        · refine zr_const hx hb dX10_only_46 ?_
          rw [hQ]
          exact pc_iret hx hb hrt hP (by rw [← hAd]; exact hD) (by rw [← hAd]; exact hS) (⟨_, rfl, hMr7⟩) dX10_only_47 hlocks
  · have hn_c2 := inB_n c2
    exfalso; omega
