set_option maxHeartbeats 4000000 in
set_option maxRecDepth 100000 in
theorem lc_length {p : Program} {l : Launch} {e : Env} {s : State} {m : MethodId} {below : List Frame} {meth : Method} {c : Code} {b Ln : Nat} {xs : Nat → Int32} (C0 : lw_At p s m meth c b Ln xs) (hlt : l.stackTraces = false) {D : va_G} {k : Nat → ClassId} {cL : ClassId} (hC : cK D (TYL k cL) s) (hX : xW s.heap.size s) {Lc : List Nat} {f : Nat → va_E} {g : CG} {S : SA} (hR : cRep k Lc f g S) (hO : aOK S) {Lm : List Nat} {fm : Nat → va_E} {a : Nat → Nat} {tw : Int} {A1 A2 A3 A4 A5 A6 A7 A8 A9 A10 : Nat → Int32} (hM : mRep k Lm fm a tw (sN S) (sC S : Int) A1 A2 A3 A4 A5 A6 A7 A8 A9 A10) (hMT : 0 ≤ tw ∧ tw ≤ 3) (hY : mSync S A1 A2 A3 A4 A5 A6 A7) {o : Nat} {gl : Nat → Int64} {H : Heap} {locs : List Loc} {cells slots : Nat} (hcs : cells + 7 ≤ 5000) (hss : slots + 82 ≤ 50000) (hP : va_P D vwCl ((va_pl Lc f ++ [(o, .inl (cL, 1, .inr (.inl gl)))]) ++ va_pl Lm fm) H) (hD : va_D (fun q : Nat => s.heap.size ≤ q) ((va_pl Lc f ++ [(o, .inl (cL, 1, .inr (.inl gl)))]) ++ va_pl Lm fm)) (hS : va_S (fun q : Nat => s.heap.size ≤ q) s.heap H locs) {i : Nat} (hi : i + 4 ≤ Ln) (hLn : Ln ≤ 2048) {ls : Array Slot} (hl : lv_has ls 7 [(4, .int (zI (i : Int))), (0, .ref b), (1, .ref (gA g 0)), (2, .ref (a 0)), (3, .ref o)]) {Q : State → Prop} (hE : KEnd p l e s m b below meth c cells slots Q D k cL (gA g 0) Lm a o i) : W p l e room_1 s m #[Value.ref b] below meth c H locs cells slots Q (F0 m 252 ls []) := by
  obtain ⟨hx, hb, hrt, hml, hown0, hts0, hXs, hbl, hlocks, hgv⟩ := id C0
  have hown : s.vm.findClass RL = some m.cls := hown0
  have hts : ∀ w ∈ wsL_law, w.before #[Value.ref b] s = true := fun w h => hts0 w (wsL_law_in w h)
  have hbA : ¬ (fun q : Nat => s.heap.size ≤ q) b := Nat.not_le.mpr hbl
  have hK := hC.1
  have hNW := hC.2.1
  have hA : ∀ q : Nat, s.heap.size ≤ q → (fun q : Nat => s.heap.size ≤ q) q := fun _ h => h
  have hAn : ∀ q : Nat, (fun q : Nat => s.heap.size ≤ q) q → s.heap.size ≤ q := fun _ h => h
  have hn0 := hO.1
  have hc0 := hO.2.2.2.1
  refine lv_aload_n hx hb dL_law_252 rfl (lv_at hl 2 rfl) ?_
  refine vp_callSi (va_Run.run (va_runV (As := []) (rest := []) ⟨hx, hb, hml, hown, hts⟩ (kX9_length l D k Lc f g S hR hO) (cwV 0 hts gL_law_X9_length rfl rfl rfl (by decide +kernel) ⟨Nat.le_of_ble_eq_true rfl, Nat.le_of_ble_eq_true rfl⟩) (rc_preV hC.sub4 (vaP_l (vaP_l hP)) (pl_recv hK (vaP_l (vaP_l hP)) (hR.2.1 0 (by decide)) hR.1.1 (ci := 8) (q := (RX9, TX9, 3)) rfl)) rfl rfl hl.1 rfl (lv_room (Nat.le_of_ble_eq_true rfl)) dL_law_253 ⟨Nat.le_trans (show _ ≤ 5000 by omega) (Nat.le_of_ble_eq_true rfl), Nat.le_trans (show _ ≤ 50000 by omega) (Nat.le_of_ble_eq_true rfl)⟩)) (fun r9 hr9 => ?_)
  have hr9 : r9 = zI (sN S) := hr9
  subst hr9
  refine lv_aload_n hx hb dL_law_256 rfl (lv_at hl 3 rfl) ?_
  have hPm := tw_swapP hP
  have hDm := tw_swapD hD
  refine wr_calli (X := va_pl Lm fm) (va_runV (As := []) (rest := [.int (zI (sN S))]) ⟨hx, hb, hml, hown, hts⟩ (kX10_length l D k Lm fm a tw (sN S) (sC S : Int) A1 A2 A3 A4 A5 A6 A7 A8 A9 A10 hM (by omega) hMT (by omega) s.heap.size H.size) (cwV 0 hts gL_law_X10_length rfl rfl rfl (by decide +kernel) ⟨Nat.le_of_ble_eq_true rfl, Nat.le_of_ble_eq_true rfl⟩) (pc_preV hC.sub4 (vaP_l hPm) hS.1 (vaD_l hDm) hAn (pl_recv hK (vaP_l hPm) (hM.2.2.2.2.2.2.2.2.2.2.2.1 0 (by decide)) hM.1 (ci := 9) (q := (RX10, TX10, 13)) rfl)) rfl rfl hl.1 rfl (lv_room (Nat.le_of_ble_eq_true rfl)) dL_law_257 ⟨Nat.le_trans (show _ ≤ 5000 by omega) (Nat.le_of_ble_eq_true rfl), Nat.le_trans (show _ ≤ 50000 by omega) (Nat.le_of_ble_eq_true rfl)⟩) hPm hDm hS hA (fun r u H locs hu hPm hDm hS hz9 => ?_)
  obtain ⟨hrv, Fm, rfl, hM2⟩ := hu
  have hrv : r = zI (sN S) := hrv
  subst hrv
  refine zr_icmp_eq (tgt := 1280) hx hb dL_law_260 (by decide) (by omega) (by omega) (fun _ => ?_) (fun c9 => absurd rfl c9)
  refine w_widen (k9 := cells + 7) (n9 := slots + 82) (by omega) (by omega) ?_
  exact hE S Lc f g Fm 0 A1 A2 A3 A4 A5 A6 A7 A8 A9 A10 gl H locs _ hR hO rfl hM2 (by decide) hY (tw_swapP hPm) (tw_swapD hDm) hS (lv_sub hl [0, 1, 2, 3, 4] rfl)

set_option maxHeartbeats 4000000 in
set_option maxRecDepth 100000 in
theorem lc_nodes {p : Program} {l : Launch} {e : Env} {s : State} {m : MethodId} {below : List Frame} {meth : Method} {c : Code} {b Ln : Nat} {xs : Nat → Int32} (C0 : lw_At p s m meth c b Ln xs) (hlt : l.stackTraces = false) {D : va_G} {k : Nat → ClassId} {cL : ClassId} (hC : cK D (TYL k cL) s) (hX : xW s.heap.size s) {Lc : List Nat} {f : Nat → va_E} {g : CG} {S : SA} (hR : cRep k Lc f g S) (hO : aOK S) {Lm : List Nat} {fm : Nat → va_E} {a : Nat → Nat} {tw : Int} {A1 A2 A3 A4 A5 A6 A7 A8 A9 A10 : Nat → Int32} (hM : mRep k Lm fm a tw (sN S) (sC S : Int) A1 A2 A3 A4 A5 A6 A7 A8 A9 A10) (hMT : 0 ≤ tw ∧ tw ≤ 3) (hY : mSync S A1 A2 A3 A4 A5 A6 A7) {o : Nat} {gl : Nat → Int64} {H : Heap} {locs : List Loc} {cells slots : Nat} (hcs : cells + 7 ≤ 5000) (hss : slots + 82 ≤ 50000) (hP : va_P D vwCl ((va_pl Lc f ++ [(o, .inl (cL, 1, .inr (.inl gl)))]) ++ va_pl Lm fm) H) (hD : va_D (fun q : Nat => s.heap.size ≤ q) ((va_pl Lc f ++ [(o, .inl (cL, 1, .inr (.inl gl)))]) ++ va_pl Lm fm)) (hS : va_S (fun q : Nat => s.heap.size ≤ q) s.heap H locs) {i : Nat} (hi : i + 4 ≤ Ln) (hLn : Ln ≤ 2048) {ls : Array Slot} (hl : lv_has ls 7 [(4, .int (zI (i : Int))), (0, .ref b), (1, .ref (gA g 0)), (2, .ref (a 0)), (3, .ref o)]) {Q : State → Prop} (hE : KEnd p l e s m b below meth c cells slots Q D k cL (gA g 0) Lm a o i) : W p l e room_1 s m #[Value.ref b] below meth c H locs cells slots Q (F0 m 832 ls []) := by
  obtain ⟨hx, hb, hrt, hml, hown0, hts0, hXs, hbl, hlocks, hgv⟩ := id C0
  have hown : s.vm.findClass RL = some m.cls := hown0
  have hts : ∀ w ∈ wsL_law, w.before #[Value.ref b] s = true := fun w h => hts0 w (wsL_law_in w h)
  have hbA : ¬ (fun q : Nat => s.heap.size ≤ q) b := Nat.not_le.mpr hbl
  have hK := hC.1
  have hNW := hC.2.1
  have hA : ∀ q : Nat, s.heap.size ≤ q → (fun q : Nat => s.heap.size ≤ q) q := fun _ h => h
  have hAn : ∀ q : Nat, (fun q : Nat => s.heap.size ≤ q) q → s.heap.size ≤ q := fun _ h => h
  have hn0 := hO.1
  have hc0 := hO.2.2.2.1
  refine lv_aload_n hx hb dL_law_832 rfl (lv_at hl 2 rfl) ?_
  refine vp_callSi (va_Run.run (va_runV (As := []) (rest := []) ⟨hx, hb, hml, hown, hts⟩ (kX9_nodes l D k Lc f g S hR hO) (cwV 0 hts gL_law_X9_nodes rfl rfl rfl (by decide +kernel) ⟨Nat.le_of_ble_eq_true rfl, Nat.le_of_ble_eq_true rfl⟩) (rc_preV hC.sub4 (vaP_l (vaP_l hP)) (pl_recv hK (vaP_l (vaP_l hP)) (hR.2.1 0 (by decide)) hR.1.1 (ci := 8) (q := (RX9, TX9, 3)) rfl)) rfl rfl hl.1 rfl (lv_room (Nat.le_of_ble_eq_true rfl)) dL_law_833 ⟨Nat.le_trans (show _ ≤ 5000 by omega) (Nat.le_of_ble_eq_true rfl), Nat.le_trans (show _ ≤ 50000 by omega) (Nat.le_of_ble_eq_true rfl)⟩)) (fun r9 hr9 => ?_)
  have hr9 : r9 = zI (sC S : Int) := hr9
  subst hr9
  refine lv_aload_n hx hb dL_law_836 rfl (lv_at hl 3 rfl) ?_
  have hPm := tw_swapP hP
  have hDm := tw_swapD hD
  refine wr_calli (X := va_pl Lm fm) (va_runV (As := []) (rest := [.int (zI (sC S : Int))]) ⟨hx, hb, hml, hown, hts⟩ (kX10_nodes l D k Lm fm a tw (sN S) (sC S : Int) A1 A2 A3 A4 A5 A6 A7 A8 A9 A10 hM (by omega) hMT (by omega) s.heap.size H.size) (cwV 0 hts gL_law_X10_nodes rfl rfl rfl (by decide +kernel) ⟨Nat.le_of_ble_eq_true rfl, Nat.le_of_ble_eq_true rfl⟩) (pc_preV hC.sub4 (vaP_l hPm) hS.1 (vaD_l hDm) hAn (pl_recv hK (vaP_l hPm) (hM.2.2.2.2.2.2.2.2.2.2.2.1 0 (by decide)) hM.1 (ci := 9) (q := (RX10, TX10, 13)) rfl)) rfl rfl hl.1 rfl (lv_room (Nat.le_of_ble_eq_true rfl)) dL_law_837 ⟨Nat.le_trans (show _ ≤ 5000 by omega) (Nat.le_of_ble_eq_true rfl), Nat.le_trans (show _ ≤ 50000 by omega) (Nat.le_of_ble_eq_true rfl)⟩) hPm hDm hS hA (fun r u H locs hu hPm hDm hS hz9 => ?_)
  obtain ⟨hrv, Fm, rfl, hM2⟩ := hu
  have hrv : r = zI (sC S : Int) := hrv
  subst hrv
  refine zr_icmp_eq (tgt := 1280) hx hb dL_law_840 (by decide) (by omega) (by omega) (fun _ => ?_) (fun c9 => absurd rfl c9)
  refine w_widen (k9 := cells + 7) (n9 := slots + 82) (by omega) (by omega) ?_
  exact hE S Lc f g Fm 0 A1 A2 A3 A4 A5 A6 A7 A8 A9 A10 gl H locs _ hR hO rfl hM2 (by decide) hY (tw_swapP hPm) (tw_swapD hDm) hS (lv_sub hl [0, 1, 2, 3, 4] rfl)

set_option maxHeartbeats 4000000 in
set_option maxRecDepth 100000 in
/-- the law's loop -/
theorem law_loop {p : Program} {l : Launch} {e : Env} {s : State} {m : MethodId} {below : List Frame} {meth : Method} {c : Code} {b Ln : Nat} {xs : Nat → Int32} (C0 : lw_At p s m meth c b Ln xs) (hlt : l.stackTraces = false) {D : va_G} {k : Nat → ClassId} {cL : ClassId} (hC : cK D (TYL k cL) s) (hX : xW s.heap.size s) {Lm : List Nat} {a : Nat → Nat} {x0 o : Nat} (hLn : Ln ≤ 2048) : ∀ (n9 t : Nat), 512 < t + n9 → 4 * t ≤ Ln → ∀ (S : SA) (Lc : List Nat) (f : Nat → va_E) (g : CG) (fm : Nat → va_E) (tw : Int) (A1 A2 A3 A4 A5 A6 A7 A8 A9 A10 : Nat → Int32) (gl : Nat → Int64) (H : Heap) (locs : List Loc) (ls : Array Slot), cRep k Lc f g S → aOK S → gA g 0 = x0 → mRep k Lm fm a tw (sN S) (sC S : Int) A1 A2 A3 A4 A5 A6 A7 A8 A9 A10 → 0 ≤ tw ∧ tw ≤ 3 → mSync S A1 A2 A3 A4 A5 A6 A7 → va_P D vwCl ((va_pl Lc f ++ [(o, .inl (cL, 1, .inr (.inl gl)))]) ++ va_pl Lm fm) H → va_D (fun q : Nat => s.heap.size ≤ q) ((va_pl Lc f ++ [(o, .inl (cL, 1, .inr (.inl gl)))]) ++ va_pl Lm fm) → va_S (fun q : Nat => s.heap.size ≤ q) s.heap H locs → lv_has ls 7 [(4, .int (zI ((4 * t : Nat) : Int))), (0, .ref b), (1, .ref x0), (2, .ref (a 0)), (3, .ref o)] → W p l e room_1 s m #[Value.ref b] below meth c H locs (25 + 7 * t) (1257 + 82 * t) (lw_Z below #[Value.ref b] s) (F0 m 23 ls []) := by
  obtain ⟨hx, hb, hrt, hml, hown0, hts0, hXs, hbl, hlocks, hgv⟩ := id C0
  have hown : s.vm.findClass RL = some m.cls := hown0
  have hts : ∀ w ∈ wsL_law, w.before #[Value.ref b] s = true := fun w h => hts0 w (wsL_law_in w h)
  have hbA : ¬ (fun q : Nat => s.heap.size ≤ q) b := Nat.not_le.mpr hbl
  have hK := hC.1
  have hNW := hC.2.1
  have hA : ∀ q : Nat, s.heap.size ≤ q → (fun q : Nat => s.heap.size ≤ q) q := fun _ h => h
  intro n9
  induction n9 with
  | zero => intro t h1 h2; omega
  | succ n9 ih =>
    intro t h1 h2 S Lc f g fm tw A1 A2 A3 A4 A5 A6 A7 A8 A9 A10 gl H locs ls hR hO hg hM hMT hY hP hD hS hl
    subst hg
    refine lv_iload hx hb dL_law_23 (lv_at hl 0 rfl) ?_
    refine lv_aload_n hx hb dL_law_25 rfl (lv_at hl 1 rfl) ?_
    refine va_slen hx hb hXs hbl hbA hS dL_law_26 ?_
    refine zr_top (show Int32.ofNat Ln = zI (Ln : Int) from (zI_nat Ln).symm) ?_
    refine zr_const hx hb dL_law_27 ?_
    refine zr_sub hx hb dL_law_28 ?_
    refine zr_icmp_gt (tgt := 1286) hx hb dL_law_29 (by decide) (by omega) (by omega) (fun c1 => ?_) (fun c1 => ?_)
    · refine zr_const hx hb dL_law_1286 ?_
      refine zr_top (y := 1) (by decide) ?_
      refine va_forget (fun q hq => hS.2.2 q hq) ?_
      refine W.widen (k := 601024) (n := 7293034) (by omega) (by omega) ?_
      exact lw_ret hx hb hrt hlocks dL_law_1287
    · have hi : 4 * t + 4 ≤ Ln := by omega
      have hcs : 25 + 7 * t + 7 ≤ 5000 := by omega
      have hss : 1257 + 82 * t + 82 ≤ 50000 := by omega
      have hE : KEnd p l e s m b below meth c (25 + 7 * t) (1257 + 82 * t) (lw_Z below #[Value.ref b] s) D k cL (gA g 0) Lm a o (4 * t) := by
        intro S2 L2 F g2 Fm tw2 B1 B2 B3 B4 B5 B6 B7 B8 B9 B10 gl2 H1 locs1 ls2 hR2 hO2 hg2 hM2 hT2 hY2 hP2 hD2 hS2 hl
        refine zr_iinc (k := 0) (lv' := [(4, .int (zI (((4 * t : Nat) : Int) + 4))), (0, .ref b), (1, .ref (gA g 0)), (2, .ref (a 0)), (3, .ref o)]) hx hb dL_law_1280 hl rfl (by decide) rfl (fun ls hl => ?_)
        refine lv_goto (tgt := 23) hx hb dL_law_1283 (by decide) ?_
        rw [show (((4 * t : Nat) : Int) + 4) = ((4 * (t + 1) : Nat) : Int) by omega] at hl
        rw [show 25 + 7 * t + 7 = 25 + 7 * (t + 1) by omega, show 1257 + 82 * t + 82 = 1257 + 82 * (t + 1) by omega]
        exact ih (t + 1) (by omega) (by omega) S2 L2 F g2 Fm tw2 B1 B2 B3 B4 B5 B6 B7 B8 B9 B10 gl2 H1 locs1 ls hR2 hO2 hg2 hM2 hT2 hY2 hP2 hD2 hS2 hl
      obtain ⟨w0, hw0, e0⟩ := law_num (xs (4 * t))
      refine lv_aload_n hx hb dL_law_32 rfl (lv_at hl 1 rfl) ?_
      refine lv_iload hx hb dL_law_33 (lv_at hl 0 rfl) ?_
      refine law_ld hx hb hXs hbl hbA hS (j := 4 * t) (by omega) (by omega) hLn e0 dL_law_35 ?_
      refine zr_bipush hx hb dL_law_36 (by decide) ?_
      refine lv_iand hx hb dL_law_38 ?_
      obtain ⟨q, hq, eq⟩ := law_31 (zI w0)
      refine zr_top eq ?_
      rcases (show q = 0 ∨ q = 1 ∨ q = 2 ∨ q = 3 ∨ q = 4 ∨ q = 5 ∨ q = 6 ∨ q = 7 ∨ q = 8 ∨ q = 9 ∨ q = 10 ∨ q = 11 ∨ q = 12 ∨ q = 13 ∨ q = 14 ∨ q = 15 ∨ q = 16 ∨ q = 17 ∨ q = 18 ∨ (q < 0 ∨ 18 < q) by omega) with q9 | q9 | q9 | q9 | q9 | q9 | q9 | q9 | q9 | q9 | q9 | q9 | q9 | q9 | q9 | q9 | q9 | q9 | q9 | q9
      · refine lv_tableIn (off := 89) (tgt := 128) hx hb dL_law_39 (by rw [zI_toInt (by omega), q9]; decide) (by rw [zI_toInt (by omega), q9]; decide) (by rw [zI_toInt (by omega), q9]; rfl) (by decide) ?_
        exact lc_insert C0 hlt hC hX hR hO hM hMT hY hcs hss hP hD hS hi hLn hl hE
      · refine lv_tableIn (off := 157) (tgt := 196) hx hb dL_law_39 (by rw [zI_toInt (by omega), q9]; decide) (by rw [zI_toInt (by omega), q9]; decide) (by rw [zI_toInt (by omega), q9]; rfl) (by decide) ?_
        exact lc_remove C0 hlt hC hX hR hO hM hMT hY hcs hss hP hD hS hi hLn hl hE
      · refine lv_tableIn (off := 213) (tgt := 252) hx hb dL_law_39 (by rw [zI_toInt (by omega), q9]; decide) (by rw [zI_toInt (by omega), q9]; decide) (by rw [zI_toInt (by omega), q9]; rfl) (by decide) ?_
        exact lc_length C0 hlt hC hX hR hO hM hMT hY hcs hss hP hD hS hi hLn hl hE
      · refine lv_tableIn (off := 226) (tgt := 265) hx hb dL_law_39 (by rw [zI_toInt (by omega), q9]; decide) (by rw [zI_toInt (by omega), q9]; decide) (by rw [zI_toInt (by omega), q9]; rfl) (by decide) ?_
        exact lc_letterAt C0 hlt hC hX hR hO hM hMT hY hcs hss hP hD hS hi hLn hl hE
      · refine lv_tableIn (off := 282) (tgt := 321) hx hb dL_law_39 (by rw [zI_toInt (by omega), q9]; decide) (by rw [zI_toInt (by omega), q9]; decide) (by rw [zI_toInt (by omega), q9]; rfl) (by decide) ?_
        exact lc_mark C0 hlt hC hX hR hO hM hMT hY hcs hss hP hD hS hi hLn hl hE
      · refine lv_tableIn (off := 369) (tgt := 408) hx hb dL_law_39 (by rw [zI_toInt (by omega), q9]; decide) (by rw [zI_toInt (by omega), q9]; decide) (by rw [zI_toInt (by omega), q9]; rfl) (by decide) ?_
        exact lc_unmark C0 hlt hC hX hR hO hM hMT hY hcs hss hP hD hS hi hLn hl hE
      · refine lv_tableIn (off := 437) (tgt := 476) hx hb dL_law_39 (by rw [zI_toInt (by omega), q9]; decide) (by rw [zI_toInt (by omega), q9]; decide) (by rw [zI_toInt (by omega), q9]; rfl) (by decide) ?_
        exact lc_letter C0 hlt hC hX hR hO hM hMT hY hcs hss hP hD hS hi hLn hl hE
      · refine lv_tableIn (off := 493) (tgt := 532) hx hb dL_law_39 (by rw [zI_toInt (by omega), q9]; decide) (by rw [zI_toInt (by omega), q9]; decide) (by rw [zI_toInt (by omega), q9]; rfl) (by decide) ?_
        exact lc_marked C0 hlt hC hX hR hO hM hMT hY hcs hss hP hD hS hi hLn hl hE
      · refine lv_tableIn (off := 549) (tgt := 588) hx hb dL_law_39 (by rw [zI_toInt (by omega), q9]; decide) (by rw [zI_toInt (by omega), q9]; decide) (by rw [zI_toInt (by omega), q9]; rfl) (by decide) ?_
        exact lc_pair C0 hlt hC hX hR hO hM hMT hY hcs hss hP hD hS hi hLn hl hE
      · refine lv_tableIn (off := 629) (tgt := 668) hx hb dL_law_39 (by rw [zI_toInt (by omega), q9]; decide) (by rw [zI_toInt (by omega), q9]; decide) (by rw [zI_toInt (by omega), q9]; rfl) (by decide) ?_
        exact lc_near C0 hlt hC hX hR hO hM hMT hY hcs hss hP hD hS hi hLn hl hE
      · refine lv_tableIn (off := 709) (tgt := 748) hx hb dL_law_39 (by rw [zI_toInt (by omega), q9]; decide) (by rw [zI_toInt (by omega), q9]; decide) (by rw [zI_toInt (by omega), q9]; rfl) (by decide) ?_
        exact lc_only C0 hlt hC hX hR hO hM hMT hY hcs hss hP hD hS hi hLn hl hE
      · refine lv_tableIn (off := 793) (tgt := 832) hx hb dL_law_39 (by rw [zI_toInt (by omega), q9]; decide) (by rw [zI_toInt (by omega), q9]; decide) (by rw [zI_toInt (by omega), q9]; rfl) (by decide) ?_
        exact lc_nodes C0 hlt hC hX hR hO hM hMT hY hcs hss hP hD hS hi hLn hl hE
      · refine lv_tableIn (off := 806) (tgt := 845) hx hb dL_law_39 (by rw [zI_toInt (by omega), q9]; decide) (by rw [zI_toInt (by omega), q9]; decide) (by rw [zI_toInt (by omega), q9]; rfl) (by decide) ?_
        exact lc_regions C0 hlt hC hX hR hO hM hMT hY hcs hss hP hD hS hi hLn hl hE
      · refine lv_tableIn (off := 862) (tgt := 901) hx hb dL_law_39 (by rw [zI_toInt (by omega), q9]; decide) (by rw [zI_toInt (by omega), q9]; decide) (by rw [zI_toInt (by omega), q9]; rfl) (by decide) ?_
        exact lc_regionsOneByOne C0 hlt hC hX hR hO hM hMT hY hcs hss hP hD hS hi hLn hl hE
      · refine lv_tableIn (off := 918) (tgt := 957) hx hb dL_law_39 (by rw [zI_toInt (by omega), q9]; decide) (by rw [zI_toInt (by omega), q9]; decide) (by rw [zI_toInt (by omega), q9]; rfl) (by decide) ?_
        exact lc_regionAt C0 hlt hC hX hR hO hM hMT hY hcs hss hP hD hS hi hLn hl hE
      · refine lv_tableIn (off := 986) (tgt := 1025) hx hb dL_law_39 (by rw [zI_toInt (by omega), q9]; decide) (by rw [zI_toInt (by omega), q9]; decide) (by rw [zI_toInt (by omega), q9]; rfl) (by decide) ?_
        exact lc_has C0 hlt hC hX hR hO hM hMT hY hcs hss hP hD hS hi hLn hl hE
      · refine lv_tableIn (off := 1073) (tgt := 1112) hx hb dL_law_39 (by rw [zI_toInt (by omega), q9]; decide) (by rw [zI_toInt (by omega), q9]; decide) (by rw [zI_toInt (by omega), q9]; rfl) (by decide) ?_
        exact lc_covered C0 hlt hC hX hR hO hM hMT hY hcs hss hP hD hS hi hLn hl hE
      · refine lv_tableIn (off := 1129) (tgt := 1168) hx hb dL_law_39 (by rw [zI_toInt (by omega), q9]; decide) (by rw [zI_toInt (by omega), q9]; decide) (by rw [zI_toInt (by omega), q9]; rfl) (by decide) ?_
        exact lc_longest C0 hlt hC hX hR hO hM hMT hY hcs hss hP hD hS hi hLn hl hE
      · refine lv_tableIn (off := 1185) (tgt := 1224) hx hb dL_law_39 (by rw [zI_toInt (by omega), q9]; decide) (by rw [zI_toInt (by omega), q9]; decide) (by rw [zI_toInt (by omega), q9]; rfl) (by decide) ?_
        exact lc_deepest C0 hlt hC hX hR hO hM hMT hY hcs hss hP hD hS hi hLn hl hE
      · refine lv_tableOut (tgt := 1280) hx hb dL_law_39 (by rw [zI_toInt (by omega)]; exact q9) (by decide) ?_
        refine w_widen (k9 := 25 + 7 * t + 7) (n9 := 1257 + 82 * t + 82) (by omega) (by omega) ?_
        exact hE S Lc f g fm tw A1 A2 A3 A4 A5 A6 A7 A8 A9 A10 gl H locs _ hR hO rfl hM hMT hY hP hD hS (lv_sub hl [0, 1, 2, 3, 4] rfl)
