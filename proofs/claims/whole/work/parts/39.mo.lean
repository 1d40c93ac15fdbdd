/-- the loop of unmark: before the region is found; behind it -/
def umI (A2 K : Nat → Int32) (G : Nat → Int32) (q a b x : Nat) (y z4 : Int) : Prop := (x ≤ 25 * a + b ∧ z4 = y - ((fb_ct (linB G) x : Nat) : Int) ∧ K = A2) ∨ (x = 25 * a + b + 1 ∧ z4 = -1 ∧ K = upd A2 (25 * q + a) (A2 (25 * q + a) &&& (pw b ^^^ zI (-1))))
theorem umI_n {A2 K G : Nat → Int32} {q a b x : Nat} {y z4 : Int} {c : Bool} (h : umI A2 K G q a b x y z4) (h0 : 0 ≤ z4) (hq8 : c = linB G x) (hl : linB G (25 * a + b) = true) (hc : c = false) : umI A2 K G q a b (x + 1) y z4 := by
  rcases h with ⟨h1, h2, h3⟩ | ⟨h1, h2, h3⟩
  · refine Or.inl ⟨ra_0 hq8 hl h1 hc, ?_, h3⟩
    rw [fb_ct_succ, if_neg (fun q7 => b_tf q7 (hq8.symm.trans hc))]
    exact h2
  · omega
theorem umI_s {A2 K G : Nat → Int32} {q a b x k9 : Nat} {y z4 : Int} {c : Bool} (h : umI A2 K G q a b x y z4) (h0 : 0 ≤ z4) (hq3 : ((fb_ct (linB G) (25 * a + b) : Nat) : Int) = y) (hq8 : c = linB G x) (hc : c = true) (hn : ¬ z4 = 0) : umI A2 (upd K k9 (K k9)) G q a b (x + 1) y (z4 + (-1)) := by
  rcases h with ⟨h1, h2, h3⟩ | ⟨h1, h2, h3⟩
  · refine Or.inl ⟨ra_1 h2 hq3 h1 hn, ?_, by rw [fa_upd_same rfl]; exact h3⟩
    rw [fb_ct_succ, if_pos (hq8.symm.trans hc)]
    omega
  · omega
theorem umI_y {A2 K G : Nat → Int32} {q a b x k9 : Nat} {y z4 : Int} {c : Bool} {v : Int32} (h : umI A2 K G q a b x y z4) (hq3 : ((fb_ct (linB G) (25 * a + b) : Nat) : Int) = y) (hl : linB G (25 * a + b) = true) (hb : b ≤ 24) (hq8 : c = linB G x) (hc : c = true) (hz : z4 = 0) (hk : k9 = 25 * q + x / 25) (hv : v = K k9 &&& (pw (x % 25) ^^^ zI (-1))) : umI A2 (upd K k9 v) G q a b (x + 1) y (z4 + (-1)) := by
  rcases h with ⟨h1, h2, h3⟩ | ⟨h1, h2, h3⟩
  · have e := fb_ct_kth_one (p := linB G) (i := x) (j := 25 * a + b) (by rw [← hq8]; exact hc) hl (by omega)
    refine Or.inr ⟨by omega, by omega, ?_⟩
    rw [hv, h3, hk, show x / 25 = a by omega, show x % 25 = b by omega]
  · omega
theorem umI_e {A2 K G : Nat → Int32} {q a b x : Nat} {y z4 : Int} (h : umI A2 K G q a b x y z4) (hq3 : ((fb_ct (linB G) (25 * a + b) : Nat) : Int) = y) (hl : z4 < 0 ∨ 625 ≤ x) (ha : a < 24 ∧ b ≤ 24) : K = upd A2 (25 * q + a) (A2 (25 * q + a) &&& (pw b ^^^ zI (-1))) := by
  rcases h with ⟨h1, h2, h3⟩ | ⟨h1, h2, h3⟩
  · have := fb_ct_mono (linB G) h1
    omega
  · exact h3
theorem um_q {A2 K G : Nat → Int32} {q a b x : Nat} {y z4 : Int} {P : Nat → Nat → Prop} (h : umI A2 K G q a b x y z4) (h0 : 0 ≤ z4) (hQ : Rq A2 q P) (hP : Rg 24 P) (hG : Rp G P) (hx : x < 625) : bt (K (25 * q + x / 25)) (x % 25) = linB G x := by
  rcases h with ⟨h1, h2, h3⟩ | ⟨h1, h2, h3⟩
  · rw [h3]; exact rq_lin hQ hP hG hx
  · omega
theorem pl_own {S : SA} {q : Nat} {G : Nat → Int32} : Rp G (sMk (kindS S q G) q) := by
  have h := mk_p (kindS S q G) q
  rwa [show sR (kindS S q G) q = G from if_pos rfl] at h

set_option maxHeartbeats 4000000 in
set_option maxRecDepth 100000 in
theorem kX10_unmark (l : Launch) (D : va_G) (k : Nat → ClassId) (L : List Nat) (f : Nat → va_E) (S : SA) (hO : aOK S) (a : Nat → Nat) (tw : Int) (A1 A2 A3 A4 A5 A6 A7 A8 A9 A10 : Nat → Int32) (hM : mRep k L f a tw ((sN S)) ((sC S : Int)) A1 A2 A3 A4 A5 A6 A7 A8 A9 A10) (hMT : 0 ≤ tw ∧ tw ≤ 3) (hY : mSync S A1 A2 A3 A4 A5 A6 A7) (q : Nat) (hq4 : q < 4) (y : Int) (hy : -2147483648 ≤ y ∧ y < 2147483648) (ay ab : Nat) (hay : ay < 24) (hab : ab ≤ 24) (hq2 : hasB (sR S q) (ay : Int) (ab : Int) = true) (hq3 : ((fb_ct (linB (sR S q)) (25 * ay + ab) : Nat) : Int) = y) (n0 sz : Nat) : Met l yX10_unmark wsX10_unmark ({ frames := 2, cells := 0, slots := 0, locals := 45 } : Room) (va_Pc [.ref (a 0), .int (zI ((q : Int))), .int (zI (y))] (pPre D (tyL k) n0 (va_pl L f) sz)) (va_Qi (fun r9 u => r9 = zI ((sizeR (dropR (sR S q) (ay : Int) (ab : Int)) : Nat) : Int) ∧ ∃ (F : Nat → va_E) (K : Nat → Int32), u = va_pl L F ∧ mRep k L F a 0 ((sN S)) ((sC S : Int)) A1 K A3 A4 A5 A6 A7 A8 A9 A10 ∧ mSync (kindS S q (dropR (sR S q) (ay : Int) (ab : Int))) A1 K A3 A4 A5 A6 A7) (pB D (va_pl L f) sz) (va_A (va_pl L f) sz)) 0 0 (va_A (va_pl L f) sz) := by
  refine Met.ofW (cc := cX10_unmark) (maxL := 8) (ret := (some .int)) (by decide) rfl ?_
  intro p e s m args below meth c s₁ B hml hv
  obtain ⟨rfl, hsz, hn9, hP, hC, hD0⟩ := hv
  have hK := hC.1
  have hNW := hC.2.1
  have hx := B.exec
  have hb := B.bytes
  have hrt := B.returns
  have hts := atoms_spec (ws := wsX10_unmark) B.pre
  have hown : s.vm.findClass RX10 = some m.cls := findClass_of_methodNamed B.named
  have hlocks := B.notSynchronized
  subst hsz
  obtain ⟨A, hAd⟩ : ∃ A, A = va_A (va_pl L f) s.heap.size := ⟨_, rfl⟩
  have hD := hD0.self (sz := s.heap.size)
  rw [← hAd] at hD
  have hA : ∀ q : Nat, s.heap.size ≤ q → A q := fun q h => by rw [hAd]; exact Or.inr h
  have hAn : ∀ q : Nat, A q → n0 ≤ q := fun q h => by
    rw [hAd] at h
    rcases h with ⟨k9, e9, hk9⟩ | h
    · exact hD0.2 k9 _ hk9
    · exact Nat.le_trans hn9 h
  have hS : va_S A s.heap s.heap [] := va_S.rf
  have hi_X10 : ∀ w ∈ u_ws RX10 TX10 13, w ∈ wsX10_unmark := by decide +kernel
  have hw_0 := hts (.fieldLink RX10 13 "RegionryModel" "marks" "[I") (by decide +kernel)
  have hl := lv_entry ([.ref (a 0), .int (zI ((q : Int))), .int (zI (y))]) (n := 8) (Nat.le_of_ble_eq_true rfl)
  rw [lg_entry_eq]
  generalize (lg_sl ([.ref (a 0), .int (zI ((q : Int))), .int (zI (y))]) ++ List.replicate (8 - (lg_sl ([.ref (a 0), .int (zI ((q : Int))), .int (zI (y))])).length) Slot.unset).toArray = ls at hl ⊢
  have hl : lv_has ls 8 [(0, .ref (a 0)), (1, .int (zI ((q : Int)))), (2, .int (zI (y)))] := hl
  obtain ⟨Q, hQ⟩ : ∃ Q, Q = MQ below (va_Qi (fun r9 u => r9 = zI ((sizeR (dropR (sR S q) (ay : Int) (ab : Int)) : Nat) : Int) ∧ ∃ (F : Nat → va_E) (K : Nat → Int32), u = va_pl L F ∧ mRep k L F a 0 ((sN S)) ((sC S : Int)) A1 K A3 A4 A5 A6 A7 A8 A9 A10 ∧ mSync (kindS S q (dropR (sR S q) (ay : Int) (ab : Int))) A1 K A3 A4 A5 A6 A7) (pB D (va_pl L f) s.heap.size) (va_A (va_pl L f) s.heap.size)) ([.ref (a 0), .int (zI ((q : Int))), .int (zI (y))] : List Value).toArray s 0 0 (va_A (va_pl L f) s.heap.size) := ⟨_, rfl⟩
  rw [← hQ]
  have hMN := hO.1
  have hMC : 0 ≤ (sC S : Int) ∧ (sC S : Int) ≤ 30 := by have h8 := hO.2.2.2.1; omega
  have hszb := fb_sm_bound (f := fun j => pc1 (sR S q j)) (c := 32) (n := 24) (fun k9 _ => pc1_le _)
  have hszb : sizeR (sR S q) ≤ 768 := hszb
  have hlab : linB (sR S q) (25 * ay + ab) = true := by rw [linB_at _ (by omega)]; exact hq2
  have hlt9 := lin_lt (mk_p S q) (mk_24 hO hq4) (q := 25 * ay + ab) (by omega) hlab
  refine lv_iload_n hx hb dX10_unmark_0 rfl (lv_at hl 1 rfl) ?_
  refine vp_callSi (va_Run.run (va_runS (As := [.int (zI ((q : Int)))]) (rest := []) ⟨hx, hb, hml, hown, hts⟩ (kX10_isKind l D k L f ((q : Int)) (by omega)) (va_cwS 1 hts gX10_unmark_X10_isKind rfl rfl rfl (by decide +kernel) ⟨Nat.le_of_ble_eq_true rfl, Nat.le_of_ble_eq_true rfl⟩) (rc_preS hC hP) rfl rfl hl.1 rfl (lv_room (Nat.le_of_ble_eq_true rfl)) dX10_unmark_1 ⟨Nat.zero_le _, Nat.zero_le _⟩)) (fun r1 hr1 => ?_)
  subst hr1
  refine zr_ifb_eq (tgt := 26) hx hb dX10_unmark_4 (by decide) (fun c2 => ?_) (fun c2 => ?_)
  · have hn_c2 := inB_n c2
    exfalso; omega
  · have hn_c2 := inB_i c2
    refine lv_iload_n hx hb dX10_unmark_7 rfl (lv_at hl 2 rfl) ?_
    refine zr_const hx hb dX10_unmark_8 ?_
    refine lv_aload_n hx hb dX10_unmark_9 rfl (lv_at hl 0 rfl) ?_
    refine lv_iload_n hx hb dX10_unmark_10 rfl (lv_at hl 1 rfl) ?_
    refine vp_callSi (va_Run.run (va_runV (As := [.int (zI ((q : Int)))]) (rest := [.int (zI (0)), .int (zI (y))]) ⟨hx, hb, hml, hown, hts⟩ (kX10_countMarks l D k L f a tw ((sN S)) ((sC S : Int)) A1 A2 A3 A4 A5 A6 A7 A8 A9 A10 hM (by omega) (by omega) (by omega) q (by omega) (sMk S q) (sR S q) (mk_q hY hq4) (mk_24 hO hq4) (mk_p S q)) (cwV 1 hts gX10_unmark_X10_countMarks rfl rfl rfl (by decide +kernel) ⟨Nat.le_of_ble_eq_true rfl, Nat.le_of_ble_eq_true rfl⟩) (rc_preV hC hP (pl_recv hK hP (hM.2.2.2.2.2.2.2.2.2.2.2.1 0 (by decide)) hM.1 (ci := 9) (q := (RX10, TX10, 13)) rfl)) rfl rfl hl.1 rfl (lv_room (Nat.le_of_ble_eq_true rfl)) dX10_unmark_11 ⟨Nat.zero_le _, Nat.zero_le _⟩)) (fun r3 hr3 => ?_)
    subst hr3
    refine zr_const hx hb dX10_unmark_14 ?_
    refine zr_sub hx hb dX10_unmark_15 ?_
    refine vp_callSi (va_Run.run (va_runS (As := [.int (zI (y)), .int (zI (0)), .int (zI ((((sizeR (sR S q) : Nat) : Int)) - 1))]) (rest := []) ⟨hx, hb, hml, hown, hts⟩ (kX10_in l D k L f (y) (by omega) (0) (by omega) ((((sizeR (sR S q) : Nat) : Int)) - 1) (by omega)) (va_cwS 3 hts gX10_unmark_X10_in rfl rfl rfl (by decide +kernel) ⟨Nat.le_of_ble_eq_true rfl, Nat.le_of_ble_eq_true rfl⟩) (rc_preS hC hP) rfl rfl hl.1 rfl (lv_room (Nat.le_of_ble_eq_true rfl)) dX10_unmark_16 ⟨Nat.zero_le _, Nat.zero_le _⟩)) (fun r4 hr4 => ?_)
    subst hr4
    refine zr_ifb_eq (tgt := 26) hx hb dX10_unmark_19 (by decide) (fun c5 => ?_) (fun c5 => ?_)
    · have hn_c5 := inB_n c5
      exfalso; omega
    · have hn_c5 := inB_i c5
      refine zr_const hx hb dX10_unmark_22 ?_
      refine lv_goto (tgt := 27) hx hb dX10_unmark_23 (by decide) ?_
      refine zr_top (y := bI true) (by decide) ?_
      refine lv_istore_n (lv' := [(3, .int (bI (true))), (0, .ref (a 0)), (1, .int (zI ((q : Int)))), (2, .int (zI (y)))]) hx hb dX10_unmark_27 rfl hl (by decide) rfl (fun ls hl => ?_)
      refine lv_aload_n hx hb dX10_unmark_28 rfl (lv_at hl 1 rfl) ?_
      refine lv_iload_n hx hb dX10_unmark_29 rfl (lv_at hl 0 rfl) ?_
      refine zr_ifb_eq (tgt := 37) hx hb dX10_unmark_30 (by decide) (fun c6 => ?_) (fun c6 => ?_)
      · exact absurd c6 (by decide)
      · refine zr_const hx hb dX10_unmark_33 ?_
        refine lv_goto (tgt := 38) hx hb dX10_unmark_34 (by decide) ?_
        refine pc_calli (va_runV (As := [.int (zI (0))]) (rest := []) ⟨hx, hb, hml, hown, hts⟩ (kX10_goesWell l D k L f a tw ((sN S)) ((sC S : Int)) A1 A2 A3 A4 A5 A6 A7 A8 A9 A10 hM (by omega) (by omega) (by omega) (0) (by omega) n0 _) (cwV 1 hts gX10_unmark_X10_goesWell rfl rfl rfl (by decide +kernel) ⟨Nat.le_of_ble_eq_true rfl, Nat.le_of_ble_eq_true rfl⟩) (pc_preV hC hP (Nat.le_trans hn9 hS.1) hD hAn (pl_recv hK hP (hM.2.2.2.2.2.2.2.2.2.2.2.1 0 (by decide)) hM.1 (ci := 9) (q := (RX10, TX10, 13)) rfl)) rfl rfl hl.1 rfl (lv_room (Nat.le_of_ble_eq_true rfl)) dX10_unmark_38 ⟨Nat.zero_le _, Nat.zero_le _⟩) hD hS hA (fun r7 ur7 H locs hr7 hP hD hS hzr7 => ?_)
        obtain ⟨hvr7, Fr7, hwr7, hMr7⟩ := hr7
        have hvr7 : r7 = bI (decide ((0 : Int) = 0)) := hvr7
        subst hvr7
        have hwr7 : ur7 = va_pl L Fr7 := hwr7
        subst hwr7
        refine zr_ifb_ne (tgt := 46) hx hb dX10_unmark_41 (by decide) (fun c8 => ?_) (fun c8 => ?_)
        · refine lv_iload_n hx hb dX10_unmark_46 rfl (lv_at hl 3 rfl) ?_
          refine lv_istore (lv' := [(4, .int (zI (y))), (3, .int (bI (true))), (0, .ref (a 0)), (1, .int (zI ((q : Int)))), (2, .int (zI (y)))]) hx hb dX10_unmark_47 hl (by decide) rfl (fun ls hl => ?_)
          refine zr_const hx hb dX10_unmark_49 ?_
          refine lv_istore (lv' := [(5, .int (zI (0))), (4, .int (zI (y))), (3, .int (bI (true))), (0, .ref (a 0)), (1, .int (zI ((q : Int)))), (2, .int (zI (y)))]) hx hb dX10_unmark_50 hl (by decide) rfl (fun ls hl => ?_)
          have cut_52 : ∀ (n9 : Nat) (x : Nat) (z5 : Int) (z4 : Int) (F52 : Nat → va_E) (K2 : Nat → Int32), (mRep k L F52 a 0 ((sN S)) ((sC S : Int)) A1 K2 A3 A4 A5 A6 A7 A8 A9 A10) → (x ≤ 625) → (z5 = x) → (-1 ≤ z4 ∧ z4 ≤ y) → (umI A2 K2 (sR S q) q ay ab x y z4) → 625 - z5 < (n9 : Int) → ∀ (H : Heap) (locs : List Loc), va_P D vwCl (va_pl L F52) H → va_D A (va_pl L F52) → va_S A s.heap H locs → ∀ (ls : Array Slot), lv_has ls 8 [(0, .ref (a 0)), (1, .int (zI ((q : Int)))), (2, .int (zI (y))), (4, .int (zI (z4))), (5, .int (zI (z5)))] → W p l e (headSpec wsX10_unmark ({ frames := 2, cells := 0, slots := 0, locals := 45 } : Room)).room s m ([.ref (a 0), .int (zI ((q : Int))), .int (zI (y))] : List Value).toArray below meth c H locs 0 0 Q (F0 m 52 ls []) := by
            intro n9
            induction n9 with
            | zero =>
              intro x z5 z4 F52 K2 hF52 hk hz5 hz4 hU hfu
              exact absurd hfu (by omega)
            | succ n9 ih_52 =>
              intro x z5 z4 F52 K2 hF52 hk hz5 hz4 hU hfu H locs hP hD hS ls hl
              refine lv_iload hx hb dX10_unmark_52 (lv_at hl 4 rfl) ?_
              refine zr_sipush hx hb dX10_unmark_54 (by decide) ?_
              refine zr_icmp_ge (tgt := 142) hx hb dX10_unmark_57 (by decide) (by omega) (by omega) (fun c9 => ?_) (fun c9 => ?_)
              · have hKe := umI_e hU hq3 (by omega) ⟨hay, hab⟩
                have hYn : mSync (kindS S q (dropR (sR S q) (ay : Int) (ab : Int))) A1 K2 A3 A4 A5 A6 A7 := by rw [hKe]; exact mSync.drop hY hq4 hay hq2 rfl
                have hOn : aOK (kindS S q (dropR (sR S q) (ay : Int) (ab : Int))) := aOK_setK hO (drop_ok hO hq4 _ _)
                have hszc := fb_sm_bound (f := fun j => pc1 (dropR (sR S q) (ay : Int) (ab : Int) j)) (c := 32) (n := 24) (fun k9 _ => pc1_le _)
                refine lv_aload_n hx hb dX10_unmark_142 rfl (lv_at hl 0 rfl) ?_
                refine lv_iload_n hx hb dX10_unmark_143 rfl (lv_at hl 1 rfl) ?_
                refine vp_callSi (va_Run.run (va_runV (As := [.int (zI ((q : Int)))]) (rest := []) ⟨hx, hb, hml, hown, hts⟩ (kX10_countMarks l D k L F52 a 0 ((sN S)) ((sC S : Int)) A1 K2 A3 A4 A5 A6 A7 A8 A9 A10 hF52 (by omega) (by omega) (by omega) q (by omega) (sMk (kindS S q (dropR (sR S q) (ay : Int) (ab : Int))) q) (dropR (sR S q) (ay : Int) (ab : Int)) (mk_q hYn hq4) (mk_24 hOn hq4) pl_own) (cwV 1 hts gX10_unmark_X10_countMarks rfl rfl rfl (by decide +kernel) ⟨Nat.le_of_ble_eq_true rfl, Nat.le_of_ble_eq_true rfl⟩) (rc_preV hC hP (pl_recv hK hP (hF52.2.2.2.2.2.2.2.2.2.2.2.1 0 (by decide)) hF52.1 (ci := 9) (q := (RX10, TX10, 13)) rfl)) rfl rfl hl.1 rfl (lv_room (Nat.le_of_ble_eq_true rfl)) dX10_unmark_144 ⟨Nat.zero_le _, Nat.zero_le _⟩)) (fun r10 hr10 => ?_)
                subst hr10
                rw [hQ]
                exact pc_iret hx hb hrt hP (by rw [← hAd]; exact hD) (by rw [← hAd]; exact hS) (⟨rfl, _, _, rfl, hF52, hYn⟩) dX10_unmark_147 hlocks
              · refine lv_iload hx hb dX10_unmark_60 (lv_at hl 3 rfl) ?_
                refine zr_if_lt (tgt := 142) hx hb dX10_unmark_62 (by decide) (by omega) (fun c11 => ?_) (fun c11 => ?_)
                · have hKe := umI_e hU hq3 (by omega) ⟨hay, hab⟩
                  have hYn : mSync (kindS S q (dropR (sR S q) (ay : Int) (ab : Int))) A1 K2 A3 A4 A5 A6 A7 := by rw [hKe]; exact mSync.drop hY hq4 hay hq2 rfl
                  have hOn : aOK (kindS S q (dropR (sR S q) (ay : Int) (ab : Int))) := aOK_setK hO (drop_ok hO hq4 _ _)
                  have hszc := fb_sm_bound (f := fun j => pc1 (dropR (sR S q) (ay : Int) (ab : Int) j)) (c := 32) (n := 24) (fun k9 _ => pc1_le _)
                  refine lv_aload_n hx hb dX10_unmark_142 rfl (lv_at hl 0 rfl) ?_
                  refine lv_iload_n hx hb dX10_unmark_143 rfl (lv_at hl 1 rfl) ?_
                  refine vp_callSi (va_Run.run (va_runV (As := [.int (zI ((q : Int)))]) (rest := []) ⟨hx, hb, hml, hown, hts⟩ (kX10_countMarks l D k L F52 a 0 ((sN S)) ((sC S : Int)) A1 K2 A3 A4 A5 A6 A7 A8 A9 A10 hF52 (by omega) (by omega) (by omega) q (by omega) (sMk (kindS S q (dropR (sR S q) (ay : Int) (ab : Int))) q) (dropR (sR S q) (ay : Int) (ab : Int)) (mk_q hYn hq4) (mk_24 hOn hq4) pl_own) (cwV 1 hts gX10_unmark_X10_countMarks rfl rfl rfl (by decide +kernel) ⟨Nat.le_of_ble_eq_true rfl, Nat.le_of_ble_eq_true rfl⟩) (rc_preV hC hP (pl_recv hK hP (hF52.2.2.2.2.2.2.2.2.2.2.2.1 0 (by decide)) hF52.1 (ci := 9) (q := (RX10, TX10, 13)) rfl)) rfl rfl hl.1 rfl (lv_room (Nat.le_of_ble_eq_true rfl)) dX10_unmark_144 ⟨Nat.zero_le _, Nat.zero_le _⟩)) (fun r12 hr12 => ?_)
                  subst hr12
                  rw [hQ]
                  exact pc_iret hx hb hrt hP (by rw [← hAd]; exact hD) (by rw [← hAd]; exact hS) (⟨rfl, _, _, rfl, hF52, hYn⟩) dX10_unmark_147 hlocks
                · have hq8 := um_q hU (by omega) (mk_q hY hq4) (mk_24 hO hq4) (mk_p S q) (show x < 625 by omega)
                  refine zr_bipush hx hb dX10_unmark_65 (by decide) ?_
                  refine lv_iload_n hx hb dX10_unmark_67 rfl (lv_at hl 1 rfl) ?_
                  refine zr_mul hx hb dX10_unmark_68 ?_
                  refine lv_iload hx hb dX10_unmark_69 (lv_at hl 4 rfl) ?_
                  refine zr_bipush hx hb dX10_unmark_71 (by decide) ?_
                  refine zr_div hx hb (by omega) (by omega) dX10_unmark_73 ?_
                  refine zr_add hx hb dX10_unmark_74 ?_
                  refine lv_istore (lv' := [(6, .int (zI ((25 * ((q : Int))) + (z5 / 25)))), (0, .ref (a 0)), (1, .int (zI ((q : Int)))), (2, .int (zI (y))), (4, .int (zI (z4))), (5, .int (zI (z5)))]) hx hb dX10_unmark_75 hl (by decide) rfl (fun ls hl => ?_)
                  refine zr_const hx hb dX10_unmark_77 ?_
                  refine lv_iload hx hb dX10_unmark_78 (lv_at hl 5 rfl) ?_
                  refine zr_bipush hx hb dX10_unmark_80 (by decide) ?_
                  refine zr_rem hx hb (by omega) (by omega) dX10_unmark_82 ?_
                  refine zr_shl1 hx hb (by omega) dX10_unmark_83 ?_
                  refine lv_istore (lv' := [(7, .int (pw (z5 % 25).toNat)), (6, .int (zI ((25 * ((q : Int))) + (z5 / 25)))), (0, .ref (a 0)), (1, .int (zI ((q : Int)))), (2, .int (zI (y))), (4, .int (zI (z4))), (5, .int (zI (z5)))]) hx hb dX10_unmark_84 hl (by decide) rfl (fun ls hl => ?_)
                  refine lv_aload_n hx hb dX10_unmark_86 rfl (lv_at hl 2 rfl) ?_
                  refine pl_get (ci := 9) (v := .ref (a 2)) (C := RX10) (T := TX10) (N := 13) hx hb hts hi_X10 hown hK hP (hF52.2.2.2.2.2.2.2.2.2.2.2.1 0 (by decide)) hF52.1 rfl 3 (by decide) hw_0 (fun _ h9 => h9) rfl dX10_unmark_87 ?_
                  refine lv_iload hx hb dX10_unmark_90 (lv_at hl 1 rfl) ?_
                  refine pl_iald hx hb hK hP (hF52.2.2.2.2.2.2.2.2.2.2.2.1 2 (by decide)) 0 hF52.2.2.1 rfl (25 * q + x / 25) (by omega) (by omega) (by decide) dX10_unmark_92 ?_
                  refine lv_iload hx hb dX10_unmark_93 (lv_at hl 0 rfl) ?_
                  refine lv_iand hx hb dX10_unmark_95 ?_
                  refine zr_ifm_eq (tgt := 136) hx hb (by omega) dX10_unmark_96 (by decide) (fun c13 => ?_) (fun c13 => ?_)
                  · have hc9 : bt (K2 (25 * q + x / 25)) (x % 25) = false := by rw [show x % 25 = (z5 % 25).toNat by omega]; exact c13
                    refine zr_iinc (k := 6) (lv' := [(5, .int (zI (z5 + 1))), (7, .int (pw (z5 % 25).toNat)), (6, .int (zI ((25 * ((q : Int))) + (z5 / 25)))), (0, .ref (a 0)), (1, .int (zI ((q : Int)))), (2, .int (zI (y))), (4, .int (zI (z4)))]) hx hb dX10_unmark_136 hl rfl (by decide) rfl (fun ls hl => ?_)
                    refine lv_goto (tgt := 52) hx hb dX10_unmark_139 (by decide) ?_
                    exact ih_52 (x + 1) (z5 + 1) (z4) (F52) (K2) (hF52) (by omega) (by omega) (by omega) (umI_n hU (by omega) hq8 hlab (by assumption)) (by omega) _ _ hP hD hS _ (lv_sub hl [3, 4, 5, 6, 0] rfl)
                  · have hc9 : bt (K2 (25 * q + x / 25)) (x % 25) = true := by rw [show x % 25 = (z5 % 25).toNat by omega]; exact c13
                    refine lv_aload_n hx hb dX10_unmark_99 rfl (lv_at hl 2 rfl) ?_
                    refine pl_get (ci := 9) (v := .ref (a 2)) (C := RX10) (T := TX10) (N := 13) hx hb hts hi_X10 hown hK hP (hF52.2.2.2.2.2.2.2.2.2.2.2.1 0 (by decide)) hF52.1 rfl 3 (by decide) hw_0 (fun _ h9 => h9) rfl dX10_unmark_100 ?_
                    refine lv_iload hx hb dX10_unmark_103 (lv_at hl 1 rfl) ?_
                    refine lv_iload hx hb dX10_unmark_105 (lv_at hl 5 rfl) ?_
                    refine zr_if_ne (tgt := 125) hx hb dX10_unmark_107 (by decide) (by omega) (fun c14 => ?_) (fun c14 => ?_)
                    · refine lv_aload_n hx hb dX10_unmark_125 rfl (lv_at hl 2 rfl) ?_
                      refine pl_get (ci := 9) (v := .ref (a 2)) (C := RX10) (T := TX10) (N := 13) hx hb hts hi_X10 hown hK hP (hF52.2.2.2.2.2.2.2.2.2.2.2.1 0 (by decide)) hF52.1 rfl 3 (by decide) hw_0 (fun _ h9 => h9) rfl dX10_unmark_126 ?_
                      refine lv_iload hx hb dX10_unmark_129 (lv_at hl 1 rfl) ?_
                      refine pl_iald hx hb hK hP (hF52.2.2.2.2.2.2.2.2.2.2.2.1 2 (by decide)) 0 hF52.2.2.1 rfl (25 * q + x / 25) (by omega) (by omega) (by decide) dX10_unmark_131 ?_
                      refine pl_iast (x := (K2 (25 * q + x / 25))) hx hb hK hP hD hS (hF52.2.2.2.2.2.2.2.2.2.2.2.1 2 (by decide)) 0 hF52.2.2.1 rfl (25 * q + x / 25) (by omega) (by omega) (by decide) dX10_unmark_132 (fun H locs hP hD hS => ?_)
                      have hP : va_P D vwCl (va_pl L (va_up F52 (a 2) (.inl (k 0, 100, .inl (upd K2 (25 * q + x / 25) (K2 (25 * q + x / 25))))))) H := hP
                      have hD : va_D A (va_pl L (va_up F52 (a 2) (.inl (k 0, 100, .inl (upd K2 (25 * q + x / 25) (K2 (25 * q + x / 25))))))) := hD
                      refine zr_iinc (k := 5) (lv' := [(4, .int (zI (z4 + (-1)))), (7, .int (pw (z5 % 25).toNat)), (6, .int (zI ((25 * ((q : Int))) + (z5 / 25)))), (0, .ref (a 0)), (1, .int (zI ((q : Int)))), (2, .int (zI (y))), (5, .int (zI (z5)))]) hx hb dX10_unmark_133 hl rfl (by decide) rfl (fun ls hl => ?_)
                      refine zr_iinc (k := 6) (lv' := [(5, .int (zI (z5 + 1))), (4, .int (zI (z4 + (-1)))), (7, .int (pw (z5 % 25).toNat)), (6, .int (zI ((25 * ((q : Int))) + (z5 / 25)))), (0, .ref (a 0)), (1, .int (zI ((q : Int)))), (2, .int (zI (y)))]) hx hb dX10_unmark_136 hl rfl (by decide) rfl (fun ls hl => ?_)
                      refine lv_goto (tgt := 52) hx hb dX10_unmark_139 (by decide) ?_
                      exact ih_52 (x + 1) (z5 + 1) (z4 + (-1)) (va_up F52 (a 2) (.inl (k 0, 100, .inl (upd K2 (25 * q + x / 25) (K2 (25 * q + x / 25)))))) ((upd K2 (25 * q + x / 25) (K2 (25 * q + x / 25)))) ((mRep.s2 hF52 _)) (by omega) (by omega) (by omega) (by first | exact umI_y hU hq3 hlab hab hq8 (by assumption) (by assumption) rfl (by rw [show (z5 % 25).toNat = x % 25 by omega]) | exact umI_s hU (by omega) hq3 hq8 (by assumption) (by assumption)) (by omega) _ _ hP hD hS _ (lv_sub hl [4, 5, 6, 1, 0] rfl)
                    · refine lv_aload_n hx hb dX10_unmark_110 rfl (lv_at hl 2 rfl) ?_
                      refine pl_get (ci := 9) (v := .ref (a 2)) (C := RX10) (T := TX10) (N := 13) hx hb hts hi_X10 hown hK hP (hF52.2.2.2.2.2.2.2.2.2.2.2.1 0 (by decide)) hF52.1 rfl 3 (by decide) hw_0 (fun _ h9 => h9) rfl dX10_unmark_111 ?_
                      refine lv_iload hx hb dX10_unmark_114 (lv_at hl 1 rfl) ?_
                      refine pl_iald hx hb hK hP (hF52.2.2.2.2.2.2.2.2.2.2.2.1 2 (by decide)) 0 hF52.2.2.1 rfl (25 * q + x / 25) (by omega) (by omega) (by decide) dX10_unmark_116 ?_
                      refine lv_iload hx hb dX10_unmark_117 (lv_at hl 0 rfl) ?_
                      refine zr_const hx hb dX10_unmark_119 ?_
                      refine lv_ixor hx hb dX10_unmark_120 ?_
                      refine lv_iand hx hb dX10_unmark_121 ?_
                      refine lv_goto (tgt := 132) hx hb dX10_unmark_122 (by decide) ?_
                      refine pl_iast (x := ((K2 (25 * q + x / 25)) &&& ((pw (z5 % 25).toNat) ^^^ (zI (-1))))) hx hb hK hP hD hS (hF52.2.2.2.2.2.2.2.2.2.2.2.1 2 (by decide)) 0 hF52.2.2.1 rfl (25 * q + x / 25) (by omega) (by omega) (by decide) dX10_unmark_132 (fun H locs hP hD hS => ?_)
                      have hP : va_P D vwCl (va_pl L (va_up F52 (a 2) (.inl (k 0, 100, .inl (upd K2 (25 * q + x / 25) ((K2 (25 * q + x / 25)) &&& ((pw (z5 % 25).toNat) ^^^ (zI (-1))))))))) H := hP
                      have hD : va_D A (va_pl L (va_up F52 (a 2) (.inl (k 0, 100, .inl (upd K2 (25 * q + x / 25) ((K2 (25 * q + x / 25)) &&& ((pw (z5 % 25).toNat) ^^^ (zI (-1))))))))) := hD
                      refine zr_iinc (k := 5) (lv' := [(4, .int (zI (z4 + (-1)))), (7, .int (pw (z5 % 25).toNat)), (6, .int (zI ((25 * ((q : Int))) + (z5 / 25)))), (0, .ref (a 0)), (1, .int (zI ((q : Int)))), (2, .int (zI (y))), (5, .int (zI (z5)))]) hx hb dX10_unmark_133 hl rfl (by decide) rfl (fun ls hl => ?_)
                      refine zr_iinc (k := 6) (lv' := [(5, .int (zI (z5 + 1))), (4, .int (zI (z4 + (-1)))), (7, .int (pw (z5 % 25).toNat)), (6, .int (zI ((25 * ((q : Int))) + (z5 / 25)))), (0, .ref (a 0)), (1, .int (zI ((q : Int)))), (2, .int (zI (y)))]) hx hb dX10_unmark_136 hl rfl (by decide) rfl (fun ls hl => ?_)
                      refine lv_goto (tgt := 52) hx hb dX10_unmark_139 (by decide) ?_
                      exact ih_52 (x + 1) (z5 + 1) (z4 + (-1)) (va_up F52 (a 2) (.inl (k 0, 100, .inl (upd K2 (25 * q + x / 25) ((K2 (25 * q + x / 25)) &&& ((pw (z5 % 25).toNat) ^^^ (zI (-1)))))))) ((upd K2 (25 * q + x / 25) ((K2 (25 * q + x / 25)) &&& ((pw (z5 % 25).toNat) ^^^ (zI (-1)))))) ((mRep.s2 hF52 _)) (by omega) (by omega) (by omega) (by first | exact umI_y hU hq3 hlab hab hq8 (by assumption) (by assumption) rfl (by rw [show (z5 % 25).toNat = x % 25 by omega]) | exact umI_s hU (by omega) hq3 hq8 (by assumption) (by assumption)) (by omega) _ _ hP hD hS _ (lv_sub hl [4, 5, 6, 1, 0] rfl)
          exact cut_52 ((625 - (0) : Int).toNat + 1) (0) (0) (y) (Fr7) (A2) (hMr7) (by omega) (by omega) (by omega) (Or.inl ⟨Nat.zero_le _, by show y = y - 0; omega, rfl⟩) (by omega) _ _ hP hD hS _ (lv_sub hl [3, 4, 5, 1, 0] rfl)
        · exact absurd c8 (by decide)

set_option maxHeartbeats 4000000 in
set_option maxRecDepth 100000 in
theorem kX10_unmark_n (l : Launch) (D : va_G) (k : Nat → ClassId) (L : List Nat) (f : Nat → va_E) (S : SA) (hO : aOK S) (a : Nat → Nat) (tw : Int) (A1 A2 A3 A4 A5 A6 A7 A8 A9 A10 : Nat → Int32) (hM : mRep k L f a tw ((sN S)) ((sC S : Int)) A1 A2 A3 A4 A5 A6 A7 A8 A9 A10) (hMT : 0 ≤ tw ∧ tw ≤ 3) (hY : mSync S A1 A2 A3 A4 A5 A6 A7) (z : Int) (hz : -2147483648 ≤ z ∧ z < 2147483648) (hz2 : ¬ (0 ≤ z ∧ z < 4)) (y : Int) (hy : -2147483648 ≤ y ∧ y < 2147483648) (n0 sz : Nat) : Met l yX10_unmark wsX10_unmark ({ frames := 2, cells := 0, slots := 0, locals := 42 } : Room) (va_Pc [.ref (a 0), .int (zI (z)), .int (zI (y))] (pPre D (tyL k) n0 (va_pl L f) sz)) (va_Qi (fun _ u => ∃ F : Nat → va_E, u = va_pl L F ∧ mRep k L F a 1 ((sN S)) ((sC S : Int)) A1 A2 A3 A4 A5 A6 A7 A8 A9 A10) (pB D (va_pl L f) sz) (va_A (va_pl L f) sz)) 0 0 (va_A (va_pl L f) sz) := by
  refine Met.ofW (cc := cX10_unmark) (maxL := 8) (ret := (some .int)) (by decide) rfl ?_
  intro p e s m args below meth c s₁ B hml hv
  obtain ⟨rfl, hsz, hn9, hP, hC, hD0⟩ := hv
  have hK := hC.1
  have hNW := hC.2.1
  have hx := B.exec
  have hb := B.bytes
  have hrt := B.returns
  have hts := atoms_spec (ws := wsX10_unmark) B.pre
  have hown : s.vm.findClass RX10 = some m.cls := findClass_of_methodNamed B.named
  have hlocks := B.notSynchronized
  subst hsz
  obtain ⟨A, hAd⟩ : ∃ A, A = va_A (va_pl L f) s.heap.size := ⟨_, rfl⟩
  have hD := hD0.self (sz := s.heap.size)
  rw [← hAd] at hD
  have hA : ∀ q : Nat, s.heap.size ≤ q → A q := fun q h => by rw [hAd]; exact Or.inr h
  have hAn : ∀ q : Nat, A q → n0 ≤ q := fun q h => by
    rw [hAd] at h
    rcases h with ⟨k9, e9, hk9⟩ | h
    · exact hD0.2 k9 _ hk9
    · exact Nat.le_trans hn9 h
  have hS : va_S A s.heap s.heap [] := va_S.rf
  have hl := lv_entry ([.ref (a 0), .int (zI (z)), .int (zI (y))]) (n := 8) (Nat.le_of_ble_eq_true rfl)
  rw [lg_entry_eq]
  generalize (lg_sl ([.ref (a 0), .int (zI (z)), .int (zI (y))]) ++ List.replicate (8 - (lg_sl ([.ref (a 0), .int (zI (z)), .int (zI (y))])).length) Slot.unset).toArray = ls at hl ⊢
  have hl : lv_has ls 8 [(0, .ref (a 0)), (1, .int (zI (z))), (2, .int (zI (y)))] := hl
  obtain ⟨Q, hQ⟩ : ∃ Q, Q = MQ below (va_Qi (fun _ u => ∃ F : Nat → va_E, u = va_pl L F ∧ mRep k L F a 1 ((sN S)) ((sC S : Int)) A1 A2 A3 A4 A5 A6 A7 A8 A9 A10) (pB D (va_pl L f) s.heap.size) (va_A (va_pl L f) s.heap.size)) ([.ref (a 0), .int (zI (z)), .int (zI (y))] : List Value).toArray s 0 0 (va_A (va_pl L f) s.heap.size) := ⟨_, rfl⟩
  rw [← hQ]
  have hMN := hO.1
  have hMC : 0 ≤ (sC S : Int) ∧ (sC S : Int) ≤ 30 := by have h8 := hO.2.2.2.1; omega
  refine lv_iload_n hx hb dX10_unmark_0 rfl (lv_at hl 1 rfl) ?_
  refine vp_callSi (va_Run.run (va_runS (As := [.int (zI (z))]) (rest := []) ⟨hx, hb, hml, hown, hts⟩ (kX10_isKind l D k L f (z) (by omega)) (va_cwS 1 hts gX10_unmark_X10_isKind rfl rfl rfl (by decide +kernel) ⟨Nat.le_of_ble_eq_true rfl, Nat.le_of_ble_eq_true rfl⟩) (rc_preS hC hP) rfl rfl hl.1 rfl (lv_room (Nat.le_of_ble_eq_true rfl)) dX10_unmark_1 ⟨Nat.zero_le _, Nat.zero_le _⟩)) (fun r1 hr1 => ?_)
  subst hr1
  refine zr_ifb_eq (tgt := 26) hx hb dX10_unmark_4 (by decide) (fun c2 => ?_) (fun c2 => ?_)
  · have hn_c2 := inB_n c2
    refine zr_const hx hb dX10_unmark_26 ?_
    refine zr_top (y := bI false) (by decide) ?_
    refine lv_istore_n (lv' := [(3, .int (bI (false))), (0, .ref (a 0)), (1, .int (zI (z))), (2, .int (zI (y)))]) hx hb dX10_unmark_27 rfl hl (by decide) rfl (fun ls hl => ?_)
    refine lv_aload_n hx hb dX10_unmark_28 rfl (lv_at hl 1 rfl) ?_
    refine lv_iload_n hx hb dX10_unmark_29 rfl (lv_at hl 0 rfl) ?_
    refine zr_ifb_eq (tgt := 37) hx hb dX10_unmark_30 (by decide) (fun c3 => ?_) (fun c3 => ?_)
    · refine zr_const hx hb dX10_unmark_37 ?_
      refine pc_calli (va_runV (As := [.int (zI (1))]) (rest := []) ⟨hx, hb, hml, hown, hts⟩ (kX10_goesWell l D k L f a tw ((sN S)) ((sC S : Int)) A1 A2 A3 A4 A5 A6 A7 A8 A9 A10 hM (by omega) (by omega) (by omega) (1) (by omega) n0 _) (cwV 1 hts gX10_unmark_X10_goesWell rfl rfl rfl (by decide +kernel) ⟨Nat.le_of_ble_eq_true rfl, Nat.le_of_ble_eq_true rfl⟩) (pc_preV hC hP (Nat.le_trans hn9 hS.1) hD hAn (pl_recv hK hP (hM.2.2.2.2.2.2.2.2.2.2.2.1 0 (by decide)) hM.1 (ci := 9) (q := (RX10, TX10, 13)) rfl)) rfl rfl hl.1 rfl (lv_room (Nat.le_of_ble_eq_true rfl)) dX10_unmark_38 ⟨Nat.zero_le _, Nat.zero_le _⟩) hD hS hA (fun r4 ur4 H locs hr4 hP hD hS hzr4 => ?_)
      obtain ⟨hvr4, Fr4, hwr4, hMr4⟩ := hr4
      have hvr4 : r4 = bI (decide ((1 : Int) = 0)) := hvr4
      subst hvr4
      have hwr4 : ur4 = va_pl L Fr4 := hwr4
      subst hwr4
      refine zr_ifb_ne (tgt := 46) hx hb dX10_unmark_41 (by decide) (fun c5 => ?_) (fun c5 => ?_)
      · exact absurd c5 (by decide)
      · refine zr_const hx hb dX10_unmark_44 ?_
        rw [hQ]
        exact pc_iret hx hb hrt hP (by rw [← hAd]; exact hD) (by rw [← hAd]; exact hS) (⟨_, rfl, hMr4⟩) dX10_unmark_45 hlocks
    · exact absurd c3 (by decide)
  · have hn_c2 := inB_i c2
    exfalso; omega

set_option maxHeartbeats 4000000 in
set_option maxRecDepth 100000 in
theorem kX10_unmark_n2 (l : Launch) (D : va_G) (k : Nat → ClassId) (L : List Nat) (f : Nat → va_E) (S : SA) (hO : aOK S) (a : Nat → Nat) (tw : Int) (A1 A2 A3 A4 A5 A6 A7 A8 A9 A10 : Nat → Int32) (hM : mRep k L f a tw ((sN S)) ((sC S : Int)) A1 A2 A3 A4 A5 A6 A7 A8 A9 A10) (hMT : 0 ≤ tw ∧ tw ≤ 3) (hY : mSync S A1 A2 A3 A4 A5 A6 A7) (q : Nat) (hq4 : q < 4) (y : Int) (hy : -2147483648 ≤ y ∧ y < 2147483648) (hno : ¬ (0 ≤ y ∧ y < ((sizeR (sR S q) : Nat) : Int))) (n0 sz : Nat) : Met l yX10_unmark wsX10_unmark ({ frames := 2, cells := 0, slots := 0, locals := 45 } : Room) (va_Pc [.ref (a 0), .int (zI ((q : Int))), .int (zI (y))] (pPre D (tyL k) n0 (va_pl L f) sz)) (va_Qi (fun _ u => ∃ F : Nat → va_E, u = va_pl L F ∧ mRep k L F a 1 ((sN S)) ((sC S : Int)) A1 A2 A3 A4 A5 A6 A7 A8 A9 A10) (pB D (va_pl L f) sz) (va_A (va_pl L f) sz)) 0 0 (va_A (va_pl L f) sz) := by
  refine Met.ofW (cc := cX10_unmark) (maxL := 8) (ret := (some .int)) (by decide) rfl ?_
  intro p e s m args below meth c s₁ B hml hv
  obtain ⟨rfl, hsz, hn9, hP, hC, hD0⟩ := hv
  have hK := hC.1
  have hNW := hC.2.1
  have hx := B.exec
  have hb := B.bytes
  have hrt := B.returns
  have hts := atoms_spec (ws := wsX10_unmark) B.pre
  have hown : s.vm.findClass RX10 = some m.cls := findClass_of_methodNamed B.named
  have hlocks := B.notSynchronized
  subst hsz
  obtain ⟨A, hAd⟩ : ∃ A, A = va_A (va_pl L f) s.heap.size := ⟨_, rfl⟩
  have hD := hD0.self (sz := s.heap.size)
  rw [← hAd] at hD
  have hA : ∀ q : Nat, s.heap.size ≤ q → A q := fun q h => by rw [hAd]; exact Or.inr h
  have hAn : ∀ q : Nat, A q → n0 ≤ q := fun q h => by
    rw [hAd] at h
    rcases h with ⟨k9, e9, hk9⟩ | h
    · exact hD0.2 k9 _ hk9
    · exact Nat.le_trans hn9 h
  have hS : va_S A s.heap s.heap [] := va_S.rf
  have hl := lv_entry ([.ref (a 0), .int (zI ((q : Int))), .int (zI (y))]) (n := 8) (Nat.le_of_ble_eq_true rfl)
  rw [lg_entry_eq]
  generalize (lg_sl ([.ref (a 0), .int (zI ((q : Int))), .int (zI (y))]) ++ List.replicate (8 - (lg_sl ([.ref (a 0), .int (zI ((q : Int))), .int (zI (y))])).length) Slot.unset).toArray = ls at hl ⊢
  have hl : lv_has ls 8 [(0, .ref (a 0)), (1, .int (zI ((q : Int)))), (2, .int (zI (y)))] := hl
  obtain ⟨Q, hQ⟩ : ∃ Q, Q = MQ below (va_Qi (fun _ u => ∃ F : Nat → va_E, u = va_pl L F ∧ mRep k L F a 1 ((sN S)) ((sC S : Int)) A1 A2 A3 A4 A5 A6 A7 A8 A9 A10) (pB D (va_pl L f) s.heap.size) (va_A (va_pl L f) s.heap.size)) ([.ref (a 0), .int (zI ((q : Int))), .int (zI (y))] : List Value).toArray s 0 0 (va_A (va_pl L f) s.heap.size) := ⟨_, rfl⟩
  rw [← hQ]
  have hMN := hO.1
  have hMC : 0 ≤ (sC S : Int) ∧ (sC S : Int) ≤ 30 := by have h8 := hO.2.2.2.1; omega
  have hszb := fb_sm_bound (f := fun j => pc1 (sR S q j)) (c := 32) (n := 24) (fun k9 _ => pc1_le _)
  have hszb : sizeR (sR S q) ≤ 768 := hszb
  refine lv_iload_n hx hb dX10_unmark_0 rfl (lv_at hl 1 rfl) ?_
  refine vp_callSi (va_Run.run (va_runS (As := [.int (zI ((q : Int)))]) (rest := []) ⟨hx, hb, hml, hown, hts⟩ (kX10_isKind l D k L f ((q : Int)) (by omega)) (va_cwS 1 hts gX10_unmark_X10_isKind rfl rfl rfl (by decide +kernel) ⟨Nat.le_of_ble_eq_true rfl, Nat.le_of_ble_eq_true rfl⟩) (rc_preS hC hP) rfl rfl hl.1 rfl (lv_room (Nat.le_of_ble_eq_true rfl)) dX10_unmark_1 ⟨Nat.zero_le _, Nat.zero_le _⟩)) (fun r1 hr1 => ?_)
  subst hr1
  refine zr_ifb_eq (tgt := 26) hx hb dX10_unmark_4 (by decide) (fun c2 => ?_) (fun c2 => ?_)
  · have hn_c2 := inB_n c2
    exfalso; omega
  · have hn_c2 := inB_i c2
    refine lv_iload_n hx hb dX10_unmark_7 rfl (lv_at hl 2 rfl) ?_
    refine zr_const hx hb dX10_unmark_8 ?_
    refine lv_aload_n hx hb dX10_unmark_9 rfl (lv_at hl 0 rfl) ?_
    refine lv_iload_n hx hb dX10_unmark_10 rfl (lv_at hl 1 rfl) ?_
    refine vp_callSi (va_Run.run (va_runV (As := [.int (zI ((q : Int)))]) (rest := [.int (zI (0)), .int (zI (y))]) ⟨hx, hb, hml, hown, hts⟩ (kX10_countMarks l D k L f a tw ((sN S)) ((sC S : Int)) A1 A2 A3 A4 A5 A6 A7 A8 A9 A10 hM (by omega) (by omega) (by omega) q (by omega) (sMk S q) (sR S q) (mk_q hY hq4) (mk_24 hO hq4) (mk_p S q)) (cwV 1 hts gX10_unmark_X10_countMarks rfl rfl rfl (by decide +kernel) ⟨Nat.le_of_ble_eq_true rfl, Nat.le_of_ble_eq_true rfl⟩) (rc_preV hC hP (pl_recv hK hP (hM.2.2.2.2.2.2.2.2.2.2.2.1 0 (by decide)) hM.1 (ci := 9) (q := (RX10, TX10, 13)) rfl)) rfl rfl hl.1 rfl (lv_room (Nat.le_of_ble_eq_true rfl)) dX10_unmark_11 ⟨Nat.zero_le _, Nat.zero_le _⟩)) (fun r3 hr3 => ?_)
    subst hr3
    refine zr_const hx hb dX10_unmark_14 ?_
    refine zr_sub hx hb dX10_unmark_15 ?_
    refine vp_callSi (va_Run.run (va_runS (As := [.int (zI (y)), .int (zI (0)), .int (zI ((((sizeR (sR S q) : Nat) : Int)) - 1))]) (rest := []) ⟨hx, hb, hml, hown, hts⟩ (kX10_in l D k L f (y) (by omega) (0) (by omega) ((((sizeR (sR S q) : Nat) : Int)) - 1) (by omega)) (va_cwS 3 hts gX10_unmark_X10_in rfl rfl rfl (by decide +kernel) ⟨Nat.le_of_ble_eq_true rfl, Nat.le_of_ble_eq_true rfl⟩) (rc_preS hC hP) rfl rfl hl.1 rfl (lv_room (Nat.le_of_ble_eq_true rfl)) dX10_unmark_16 ⟨Nat.zero_le _, Nat.zero_le _⟩)) (fun r4 hr4 => ?_)
    subst hr4
    refine zr_ifb_eq (tgt := 26) hx hb dX10_unmark_19 (by decide) (fun c5 => ?_) (fun c5 => ?_)
    · have hn_c5 := inB_n c5
      refine zr_const hx hb dX10_unmark_26 ?_
      refine zr_top (y := bI false) (by decide) ?_
      refine lv_istore_n (lv' := [(3, .int (bI (false))), (0, .ref (a 0)), (1, .int (zI ((q : Int)))), (2, .int (zI (y)))]) hx hb dX10_unmark_27 rfl hl (by decide) rfl (fun ls hl => ?_)
      refine lv_aload_n hx hb dX10_unmark_28 rfl (lv_at hl 1 rfl) ?_
      refine lv_iload_n hx hb dX10_unmark_29 rfl (lv_at hl 0 rfl) ?_
      refine zr_ifb_eq (tgt := 37) hx hb dX10_unmark_30 (by decide) (fun c6 => ?_) (fun c6 => ?_)
      · refine zr_const hx hb dX10_unmark_37 ?_
        refine pc_calli (va_runV (As := [.int (zI (1))]) (rest := []) ⟨hx, hb, hml, hown, hts⟩ (kX10_goesWell l D k L f a tw ((sN S)) ((sC S : Int)) A1 A2 A3 A4 A5 A6 A7 A8 A9 A10 hM (by omega) (by omega) (by omega) (1) (by omega) n0 _) (cwV 1 hts gX10_unmark_X10_goesWell rfl rfl rfl (by decide +kernel) ⟨Nat.le_of_ble_eq_true rfl, Nat.le_of_ble_eq_true rfl⟩) (pc_preV hC hP (Nat.le_trans hn9 hS.1) hD hAn (pl_recv hK hP (hM.2.2.2.2.2.2.2.2.2.2.2.1 0 (by decide)) hM.1 (ci := 9) (q := (RX10, TX10, 13)) rfl)) rfl rfl hl.1 rfl (lv_room (Nat.le_of_ble_eq_true rfl)) dX10_unmark_38 ⟨Nat.zero_le _, Nat.zero_le _⟩) hD hS hA (fun r7 ur7 H locs hr7 hP hD hS hzr7 => ?_)
        obtain ⟨hvr7, Fr7, hwr7, hMr7⟩ := hr7
        have hvr7 : r7 = bI (decide ((1 : Int) = 0)) := hvr7
        subst hvr7
        have hwr7 : ur7 = va_pl L Fr7 := hwr7
        subst hwr7
        refine zr_ifb_ne (tgt := 46) hx hb dX10_unmark_41 (by decide) (fun c8 => ?_) (fun c8 => ?_)
        · exact absurd c8 (by decide)
        · refine zr_const hx hb dX10_unmark_44 ?_
          rw [hQ]
          exact pc_iret hx hb hrt hP (by rw [← hAd]; exact hD) (by rw [← hAd]; exact hS) (⟨_, rfl, hMr7⟩) dX10_unmark_45 hlocks
      · exact absurd c6 (by decide)
    · have hn_c5 := inB_i c5
      exfalso; omega
