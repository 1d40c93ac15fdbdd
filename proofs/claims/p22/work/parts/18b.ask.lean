set_option maxHeartbeats 4000000 in
set_option maxRecDepth 100000 in
theorem kX7_askEach (l : Launch) (D : va_G) (k : Nat → ClassId) (L : List Nat) (f : Nat → va_E) (h : Nat) (d : Int) (nd : Int32) (gs as js r rj : Nat) (g gj : Nat → Int32) (o1 : Nat) (d1 : Int) (n1 : Int32) (gs1 as1 : Nat) (hd1 : -100 ≤ d1 ∧ d1 ≤ 100) (ho1 : o1 ∈ L) (hx1 : exAt f o1 (zI d1) n1 gs1 as1) (o2 : Nat) (d2 : Int) (n2 : Int32) (gs2 as2 : Nat) (hd2 : -100 ≤ d2 ∧ d2 ≤ 100) (ho2 : o2 ∈ L) (hx2 : exAt f o2 (zI d2) n2 gs2 as2) (r1 : Nat) (g1 : Nat → Int32) (has1 : as1 ∈ L) (hfas1 : f as1 = .inr (5, [.ref r1])) (hr1 : r1 ∈ L) (hfr1 : f r1 = .inl (k 0, 24, .inl g1)) (r2 : Nat) (g2 : Nat → Int32) (has2 : as2 ∈ L) (hfas2 : f as2 = .inr (5, [.ref r2])) (hr2 : r2 ∈ L) (hfr2 : f r2 = .inl (k 0, 24, .inl g2)) (hh : h ∈ L) (hfh : f h = .inr (6, [.int (zI d), .int nd, .ref gs, .ref as, .ref o1, .ref o2, .ref js])) (has : as ∈ L) (hfas : f as = .inr (5, [.ref r])) (hr : r ∈ L) (hfr : f r = .inl (k 0, 24, .inl g)) (hjs : js ∈ L) (hfjs : f js = .inr (5, [.ref rj])) (hrj : rj ∈ L) (hfrj : f rj = .inl (k 0, 24, .inl gj)) (tx la ma : Nat) (n : Int) (T : Nat → Int32) (htx : tx ∈ L) (hftx : f tx = .inr (7, [.ref la, .ref ma, .int (zI n)])) (hla : la ∈ L) (hfla : f la = .inl (k 0, 24, .inl T)) (hn : 0 ≤ n ∧ n ≤ 24) (hrla : la ≠ r) (hrlj : la ≠ rj) (hne : r ≠ rj) (hn1 : r1 ≠ rj) (hn2 : r2 ≠ rj) (hn3 : r1 ≠ r) (hn4 : r2 ≠ r) (n0 sz : Nat) : Met l yX7_askEach wsX7_askEach ({ frames := 5, cells := 0, slots := 0, locals := 121 } : Room) (va_Pc [.ref h, .ref tx] (pPre D (tyL k) n0 (va_pl L f) sz)) (va_Qv (fun u => ∃ J G : Nat → Int32, aeP (fun z9 w9 => ijB g1 g2 24 z9 w9) n J ∧ aeP (spB J) n G ∧ u = va_pl L (va_up (va_up f rj (.inl (k 0, 24, .inl J))) r (.inl (k 0, 24, .inl G)))) (pB D (va_pl L f) sz) (va_A (va_pl L f) sz)) 0 0 (va_A (va_pl L f) sz) := by
  refine Met.ofW (cc := cX7_askEach) (maxL := 4) (ret := none) (by decide) rfl ?_
  intro p e s m args below meth c s₁ B hml hv
  obtain ⟨rfl, hsz, hn9, hP, hC, hD0⟩ := hv
  have hK := hC.1
  have hNW := hC.2.1
  have hx := B.exec
  have hb := B.bytes
  have hrt := B.returns
  have hts := atoms_spec (ws := wsX7_askEach) B.pre
  have hown : s.vm.findClass RX7 = some m.cls := findClass_of_methodNamed B.named
  have hlocks := B.notSynchronized
  subst hsz
  obtain ⟨A, hAd⟩ : ∃ A, A = va_A (va_pl L f) s.heap.size := ⟨_, rfl⟩
  have hD := hD0.self (sz := s.heap.size)
  rw [← hAd] at hD
  have hA : ∀ q : Nat, s.heap.size ≤ q → A q := fun q h => by rw [hAd]; exact Or.inr h
  have hAn : ∀ q : Nat, A q → n0 ≤ q := fun q h => by
    rw [hAd] at h
    rcases h with ⟨k9, e9, hk9⟩ | h
    · exact hD0.2 k9 _ hk9
    · exact Nat.le_trans hn9 h
  have hS : va_S A s.heap s.heap [] := va_S.rf
  have hi_X7 : ∀ w ∈ u_ws RX7 TX7 7, w ∈ wsX7_askEach := by decide +kernel
  have hi_X8 : ∀ w ∈ u_ws RX8 TX8 3, w ∈ wsX7_askEach := by decide +kernel
  have hi_X1 : ∀ w ∈ u_ws RX1 TX1 5, w ∈ wsX7_askEach := by decide +kernel
  have hi_X2 : ∀ w ∈ u_ws RX2 TX2 5, w ∈ wsX7_askEach := by decide +kernel
  have hi_X3 : ∀ w ∈ u_ws RX3 TX3 7, w ∈ wsX7_askEach := by decide +kernel
  have hi_X4 : ∀ w ∈ u_ws RX4 TX4 6, w ∈ wsX7_askEach := by decide +kernel
  have hi_X5 : ∀ w ∈ u_ws RX5 TX5 7, w ∈ wsX7_askEach := by decide +kernel
  have hw_0 := hts (.fieldLink RX7 22 "Regionry$SpanExpression" "joined" "LRegionry$RegionSet;") (by decide +kernel)
  have hw_1 := hts (.fieldLink RX7 28 "Regionry$SpanExpression" "one" "LRegionry$Expression;") (by decide +kernel)
  have hw_2 := hts (.fieldLink RX7 54 "Regionry$Expression" "asked" "LRegionry$RegionSet;") (by decide +kernel)
  have hw_3 := hts (.fieldLink RX7 32 "Regionry$SpanExpression" "other" "LRegionry$Expression;") (by decide +kernel)
  have hl := lv_entry ([.ref h, .ref tx]) (n := 4) (Nat.le_of_ble_eq_true rfl)
  rw [lg_entry_eq]
  generalize (lg_sl ([.ref h, .ref tx]) ++ List.replicate (4 - (lg_sl ([.ref h, .ref tx])).length) Slot.unset).toArray = ls at hl ⊢
  have hl : lv_has ls 4 [(0, .ref h), (1, .ref tx)] := hl
  obtain ⟨Q, hQ⟩ : ∃ Q, Q = MQ below (va_Qv (fun u => ∃ J G : Nat → Int32, aeP (fun z9 w9 => ijB g1 g2 24 z9 w9) n J ∧ aeP (spB J) n G ∧ u = va_pl L (va_up (va_up f rj (.inl (k 0, 24, .inl J))) r (.inl (k 0, 24, .inl G)))) (pB D (va_pl L f) s.heap.size) (va_A (va_pl L f) s.heap.size)) ([.ref h, .ref tx] : List Value).toArray s 0 0 (va_A (va_pl L f) s.heap.size) := ⟨_, rfl⟩
  rw [← hQ]
  refine lv_aload_n hx hb dX7_askEach_0 rfl (lv_at hl 0 rfl) ?_
  refine pl_get (ci := 6) (v := .ref js) (C := RX7) (T := TX7) (N := 7) hx hb hts hi_X7 hown hK hP hh hfh rfl 6 (by decide) hw_0 (fun _ h9 => h9) rfl dX7_askEach_1 ?_
  refine pc_callv (va_runV (As := []) (rest := []) ⟨hx, hb, hml, hown, hts⟩ (kX6_clear l D k L f js rj gj hjs hfjs hrj hfrj  n0 _) (cwV 0 hts gX7_askEach_X6_clear rfl rfl rfl (by decide +kernel) ⟨Nat.le_of_ble_eq_true rfl, Nat.le_of_ble_eq_true rfl⟩) (pc_preV hC hP (Nat.le_trans hn9 hS.1) hD hAn (pl_recv hK hP hjs hfjs (ci := 5) (q := (RX6, TX6, 1)) rfl)) rfl rfl hl.1 rfl (lv_room (Nat.le_of_ble_eq_true rfl)) dX7_askEach_4 ⟨Nat.zero_le _, Nat.zero_le _⟩) hD hS hA (fun ur1 H locs hr1 hP hD hS hzr1 => ?_)
  subst hr1
  have hP : va_P D vwCl (va_pl L (va_up f rj (.inl (k 0, 24, .inl (fa_fill (fun _ => zI 0) gj 24))))) H := hP
  have hD : va_D A (va_pl L (va_up f rj (.inl (k 0, 24, .inl (fa_fill (fun _ => zI 0) gj 24))))) := hD
  refine zr_const hx hb dX7_askEach_7 ?_
  refine lv_istore_n (lv' := [(2, .int (zI (0))), (0, .ref h), (1, .ref tx)]) hx hb dX7_askEach_8 rfl hl (by decide) rfl (fun ls hl => ?_)
  have cut_9 : ∀ (n9 : Nat) (a : Nat) (z2 : Int) (J : Nat → Int32), ((a : Int) ≤ n) → (z2 = a) → (aeI (fun z9 w9 => ijB g1 g2 24 z9 w9) n a 0 J) → n - z2 < (n9 : Int) → ∀ (H : Heap) (locs : List Loc), va_P D vwCl (va_pl L (va_up f rj (.inl (k 0, 24, .inl J)))) H → va_D A (va_pl L (va_up f rj (.inl (k 0, 24, .inl J)))) → va_S A s.heap H locs → ∀ (ls : Array Slot), lv_has ls 4 [(0, .ref h), (1, .ref tx), (2, .int (zI (z2)))] → W p l e (headSpec wsX7_askEach ({ frames := 5, cells := 0, slots := 0, locals := 121 } : Room)).room s m ([.ref h, .ref tx] : List Value).toArray below meth c H locs 0 0 Q (F0 m 9 ls []) := by
    intro n9
    induction n9 with
    | zero =>
      intro a z2 J ha hz2 hG hfu
      exact absurd hfu (by omega)
    | succ n9 ih_9 =>
      intro a z2 J ha hz2 hG hfu H locs hP hD hS ls hl
      refine lv_iload_n hx hb dX7_askEach_9 rfl (lv_at hl 2 rfl) ?_
      refine lv_aload_n hx hb dX7_askEach_10 rfl (lv_at hl 1 rfl) ?_
      refine pl_getN (host := "Regionry") (ci := 7) (v := .int (zI (n))) (C := RX8) (T := TX8) (N := 3) hx hb hts hi_X8 hown hK hP htx ((va_up_ne _ _ (ne_k hftx hfrj (by simp))).trans hftx) rfl 2 (by decide) (va_Nw.use rfl (hNW (.fieldLinkNest RX7 49 "Regionry$Text" "size" "I" "Regionry") (by decide +kernel))) (fun _ h9 => h9) rfl dX7_askEach_11 ?_
      refine zr_icmp_ge (tgt := 74) hx hb dX7_askEach_14 (by decide) (by omega) (by omega) (fun c2 => ?_) (fun c2 => ?_)
      · refine lv_aload_n hx hb dX7_askEach_74 rfl (lv_at hl 0 rfl) ?_
        refine lv_aload_n hx hb dX7_askEach_75 rfl (lv_at hl 1 rfl) ?_
        refine pc_callv (va_runSU (As := [.ref tx]) (rest := []) (hK.1 6 (RX7, TX7, 7) rfl).2 ⟨hx, hb, hml, hown, hts⟩ (kX0_askEach l D k L (va_up f rj (.inl (k 0, 24, .inl J))) h 6 [.ref o1, .ref o2, .ref js] (zI d) nd gs as r g (by unfold exC; omega) hh ((va_up_ne _ _ (ne_k hfh hfrj (by simp))).trans hfh) has ((va_up_ne _ _ (ne_k hfas hfrj (by simp))).trans hfas) hr ((va_up_ne _ _ hne).trans hfr) tx la ma n T htx ((va_up_ne _ _ (ne_k hftx hfrj (by simp))).trans hftx) hla ((va_up_ne _ _ hrlj).trans hfla) hn hrla (spB J) (fun G9 z9 w9 h1 h2 h3 => ⟨fun h9 => absurd h9 (by decide), fun h9 => absurd h9 (by decide), fun h9 => absurd h9 (by decide), fun h9 => absurd h9 (by decide), fun h9 => absurd h9 (by decide), fun _ => kX7_isOne l D k L (va_up (va_up f rj (.inl (k 0, 24, .inl J))) r (.inl (k 0, 24, .inl G9))) h d nd gs as js rj J o1 o2 hjs ((va_up_ne _ _ (ne_k hfjs hfr (by simp))).trans ((va_up_ne _ _ (ne_k hfjs hfrj (by simp))).trans hfjs)) hrj ((va_up_ne _ _ (Ne.symm hne)).trans (va_up_self _ _ _)) hh ((va_up_ne _ _ (ne_k hfh hfr (by simp))).trans ((va_up_ne _ _ (ne_k hfh hfrj (by simp))).trans hfh)) tx z9 w9 ⟨h1, h2⟩ h3⟩) n0 _) (va_cwSU 1 hts gX7_askEach_X0_askEach_s65 rfl rfl rfl (by decide +kernel) ⟨Nat.le_of_ble_eq_true rfl, Nat.le_of_ble_eq_true rfl⟩) (pc_preV hC hP (Nat.le_trans hn9 hS.1) hD hAn (pl_recv hK hP hh ((va_up_ne _ _ (ne_k hfh hfrj (by simp))).trans hfh) (ci := 6) (q := (RX7, TX7, 7)) rfl)) rfl rfl hl.1 rfl (lv_room (Nat.le_of_ble_eq_true rfl)) dX7_askEach_76 ⟨Nat.zero_le _, Nat.zero_le _⟩) hD hS hA (fun u9 H locs hu9 hP hD hS hz9 => ?_)
        obtain ⟨G9, hG9, rfl⟩ := hu9
        rw [hQ]
        exact pc_vret hx hb hrt hP (by rw [← hAd]; exact hD) (by rw [← hAd]; exact hS) (⟨J, G9, ae_e hG (by omega), hG9, rfl⟩) dX7_askEach_79 hlocks
      · refine lv_iload_n hx hb dX7_askEach_17 rfl (lv_at hl 2 rfl) ?_
        refine zr_const hx hb dX7_askEach_18 ?_
        refine zr_add hx hb dX7_askEach_19 ?_
        refine lv_istore_n (lv' := [(3, .int (zI (z2 + 1))), (0, .ref h), (1, .ref tx), (2, .int (zI (z2)))]) hx hb dX7_askEach_20 rfl hl (by decide) rfl (fun ls hl => ?_)
        have cut_21 : ∀ (n9 : Nat) (b : Nat) (z3 : Int) (J : Nat → Int32), (a + 1 ≤ b ∧ (b : Int) ≤ n + 1) → (z3 = b) → (aeI (fun z9 w9 => ijB g1 g2 24 z9 w9) n a b J) → n + 1 - z3 < (n9 : Int) → ∀ (H : Heap) (locs : List Loc), va_P D vwCl (va_pl L (va_up f rj (.inl (k 0, 24, .inl J)))) H → va_D A (va_pl L (va_up f rj (.inl (k 0, 24, .inl J)))) → va_S A s.heap H locs → ∀ (ls : Array Slot), lv_has ls 4 [(0, .ref h), (1, .ref tx), (2, .int (zI (z2))), (3, .int (zI (z3)))] → W p l e (headSpec wsX7_askEach ({ frames := 5, cells := 0, slots := 0, locals := 121 } : Room)).room s m ([.ref h, .ref tx] : List Value).toArray below meth c H locs 0 0 Q (F0 m 21 ls []) := by
          intro n9
          induction n9 with
          | zero =>
            intro b z3 J hb3 hz3 hG hfu
            exact absurd hfu (by omega)
          | succ n9 ih_21 =>
            intro b z3 J hb3 hz3 hG hfu H locs hP hD hS ls hl
            refine lv_iload_n hx hb dX7_askEach_21 rfl (lv_at hl 3 rfl) ?_
            refine lv_aload_n hx hb dX7_askEach_22 rfl (lv_at hl 1 rfl) ?_
            refine pl_getN (host := "Regionry") (ci := 7) (v := .int (zI (n))) (C := RX8) (T := TX8) (N := 3) hx hb hts hi_X8 hown hK hP htx ((va_up_ne _ _ (ne_k hftx hfrj (by simp))).trans hftx) rfl 2 (by decide) (va_Nw.use rfl (hNW (.fieldLinkNest RX7 49 "Regionry$Text" "size" "I" "Regionry") (by decide +kernel))) (fun _ h9 => h9) rfl dX7_askEach_23 ?_
            refine zr_icmp_gt (tgt := 68) hx hb dX7_askEach_26 (by decide) (by omega) (by omega) (fun c3 => ?_) (fun c3 => ?_)
            · refine zr_iinc (k := 2) (lv' := [(2, .int (zI (z2 + 1))), (0, .ref h), (1, .ref tx), (3, .int (zI (z3)))]) hx hb dX7_askEach_68 hl rfl (by decide) rfl (fun ls hl => ?_)
              refine lv_goto (tgt := 9) hx hb dX7_askEach_71 (by decide) ?_
              exact ih_9 (a + 1) (z2 + 1) (J) (by omega) (by omega) (ae_n hG (by omega)) (by omega) _ _ hP hD hS _ (lv_sub hl [1, 2, 0] rfl)
            · refine lv_aload_n hx hb dX7_askEach_29 rfl (lv_at hl 0 rfl) ?_
              refine pl_get (ci := 6) (v := .ref o1) (C := RX7) (T := TX7) (N := 7) hx hb hts hi_X7 hown hK hP hh ((va_up_ne _ _ (ne_k hfh hfrj (by simp))).trans hfh) rfl 4 (by decide) hw_1 (fun _ h9 => h9) rfl dX7_askEach_30 ?_
              refine pl_getE (v := .ref as1) hx hb hts hi_X1 hi_X2 hi_X3 hi_X4 hi_X5 hi_X7 hown hK hP ho1 (exAt.up (ex_ne hx1 hfrj) hx1) 3 (by decide) hw_2 rfl dX7_askEach_33 ?_
              refine lv_aload_n hx hb dX7_askEach_36 rfl (lv_at hl 0 rfl) ?_
              refine pl_get (ci := 6) (v := .ref o2) (C := RX7) (T := TX7) (N := 7) hx hb hts hi_X7 hown hK hP hh ((va_up_ne _ _ (ne_k hfh hfrj (by simp))).trans hfh) rfl 5 (by decide) hw_3 (fun _ h9 => h9) rfl dX7_askEach_37 ?_
              refine pl_getE (v := .ref as2) hx hb hts hi_X1 hi_X2 hi_X3 hi_X4 hi_X5 hi_X7 hown hK hP ho2 (exAt.up (ex_ne hx2 hfrj) hx2) 3 (by decide) hw_2 rfl dX7_askEach_40 ?_
              refine zr_bipush hx hb dX7_askEach_43 (by decide) ?_
              refine lv_iload_n hx hb dX7_askEach_45 rfl (lv_at hl 2 rfl) ?_
              refine lv_iload_n hx hb dX7_askEach_46 rfl (lv_at hl 3 rfl) ?_
              refine vp_callSi (va_Run.run (va_runS (As := [.ref as1, .ref as2, .int (zI (24)), .int (zI (z2)), .int (zI (z3))]) (rest := []) ⟨hx, hb, hml, hown, hts⟩ (kX6_isJoined l D k L (va_up f rj (.inl (k 0, 24, .inl J))) as1 r1 g1 has1 ((va_up_ne _ _ (ne_k hfas1 hfrj (by simp))).trans hfas1) hr1 ((va_up_ne _ _ hn1).trans hfr1) as2 r2 g2 has2 ((va_up_ne _ _ (ne_k hfas2 hfrj (by simp))).trans hfas2) hr2 ((va_up_ne _ _ hn2).trans hfr2) 24 z2 z3 (by omega) (by omega) (by omega)) (va_cwS 5 hts gX7_askEach_X6_isJoined rfl rfl rfl (by decide +kernel) ⟨Nat.le_of_ble_eq_true rfl, Nat.le_of_ble_eq_true rfl⟩) (rc_preS hC hP) rfl rfl hl.1 rfl (lv_room (Nat.le_of_ble_eq_true rfl)) dX7_askEach_47 ⟨Nat.zero_le _, Nat.zero_le _⟩)) (fun r4 hr4 => ?_)
              subst hr4
              refine zr_ifb_eq (tgt := 62) hx hb dX7_askEach_50 (by decide) (fun c5 => ?_) (fun c5 => ?_)
              · refine zr_iinc (k := 3) (lv' := [(3, .int (zI (z3 + 1))), (0, .ref h), (1, .ref tx), (2, .int (zI (z2)))]) hx hb dX7_askEach_62 hl rfl (by decide) rfl (fun ls hl => ?_)
                refine lv_goto (tgt := 21) hx hb dX7_askEach_65 (by decide) ?_
                exact ih_21 (b + 1) (z3 + 1) (J) (by omega) (by omega) (by first | exact ae_s1 hG hz2 hz3 (by assumption) (by omega) | exact ae_s0 hG hz2 hz3 (by assumption)) (by omega) _ _ hP hD hS _ (lv_sub hl [1, 2, 3, 0] rfl)
              · refine lv_aload_n hx hb dX7_askEach_53 rfl (lv_at hl 0 rfl) ?_
                refine pl_get (ci := 6) (v := .ref js) (C := RX7) (T := TX7) (N := 7) hx hb hts hi_X7 hown hK hP hh ((va_up_ne _ _ (ne_k hfh hfrj (by simp))).trans hfh) rfl 6 (by decide) hw_0 (fun _ h9 => h9) rfl dX7_askEach_54 ?_
                refine lv_iload_n hx hb dX7_askEach_57 rfl (lv_at hl 2 rfl) ?_
                refine lv_iload_n hx hb dX7_askEach_58 rfl (lv_at hl 3 rfl) ?_
                refine pc_callv (va_runV (As := [.int (zI (z2)), .int (zI (z3))]) (rest := []) ⟨hx, hb, hml, hown, hts⟩ (kX6_add l D k L (va_up f rj (.inl (k 0, 24, .inl J))) js rj J hjs ((va_up_ne _ _ (ne_k hfjs hfrj (by simp))).trans hfjs) hrj (va_up_self _ _ _) (z2) (by omega) (z3) (by omega) n0 _) (cwV 2 hts gX7_askEach_X6_add rfl rfl rfl (by decide +kernel) ⟨Nat.le_of_ble_eq_true rfl, Nat.le_of_ble_eq_true rfl⟩) (pc_preV hC hP (Nat.le_trans hn9 hS.1) hD hAn (pl_recv hK hP hjs ((va_up_ne _ _ (ne_k hfjs hfrj (by simp))).trans hfjs) (ci := 5) (q := (RX6, TX6, 1)) rfl)) rfl rfl hl.1 rfl (lv_room (Nat.le_of_ble_eq_true rfl)) dX7_askEach_59 ⟨Nat.zero_le _, Nat.zero_le _⟩) hD hS hA (fun ur6 H locs hr6 hP hD hS hzr6 => ?_)
                subst hr6
                rw [bx_uu] at hP hD
                have hP : va_P D vwCl (va_pl L (va_up f rj (.inl (k 0, 24, .inl (addR J z2 z3))))) H := hP
                have hD : va_D A (va_pl L (va_up f rj (.inl (k 0, 24, .inl (addR J z2 z3))))) := hD
                refine zr_iinc (k := 3) (lv' := [(3, .int (zI (z3 + 1))), (0, .ref h), (1, .ref tx), (2, .int (zI (z2)))]) hx hb dX7_askEach_62 hl rfl (by decide) rfl (fun ls hl => ?_)
                refine lv_goto (tgt := 21) hx hb dX7_askEach_65 (by decide) ?_
                exact ih_21 (b + 1) (z3 + 1) ((addR J z2 z3)) (by omega) (by omega) (by first | exact ae_s1 hG hz2 hz3 (by assumption) (by omega) | exact ae_s0 hG hz2 hz3 (by assumption)) (by omega) _ _ hP hD hS _ (lv_sub hl [1, 2, 3, 0] rfl)
        exact cut_21 ((n + 1 - (z2 + 1) : Int).toNat + 1) (a + 1) (z2 + 1) (J) (by omega) (by omega) (ae_i hG) (by omega) _ _ hP hD hS _ (lv_sub hl [1, 2, 3, 0] rfl)
  exact cut_9 ((n - (0) : Int).toNat + 1) (0) (0) ((fa_fill (fun _ => zI 0) gj 24)) (by omega) (by omega) (ae_0 (fun z9 w9 => ijB g1 g2 24 z9 w9) n gj) (by omega) _ _ hP hD hS _ (lv_sub hl [1, 2, 0] rfl)
