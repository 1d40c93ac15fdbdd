set_option maxHeartbeats 4000000 in
set_option maxRecDepth 100000 in
theorem lc_insert {p : Program} {l : Launch} {e : Env} {s : State} {m : MethodId} {below : List Frame} {meth : Method} {c : Code} {b Ln : Nat} {xs : Nat → Int32} (C0 : lw_At p s m meth c b Ln xs) (hlt : l.stackTraces = false) {D : va_G} {k : Nat → ClassId} {cL : ClassId} (hC : cK D (TYL k cL) s) (hX : xW s.heap.size s) {Lc : List Nat} {f : Nat → va_E} {g : CG} {S : SA} (hR : cRep k Lc f g S) (hO : aOK S) {Lm : List Nat} {fm : Nat → va_E} {a : Nat → Nat} {tw : Int} {A1 A2 A3 A4 A5 A6 A7 A8 A9 A10 : Nat → Int32} (hM : mRep k Lm fm a tw (sN S) (sC S : Int) A1 A2 A3 A4 A5 A6 A7 A8 A9 A10) (hMT : 0 ≤ tw ∧ tw ≤ 3) (hY : mSync S A1 A2 A3 A4 A5 A6 A7) {o : Nat} {gl : Nat → Int64} {H : Heap} {locs : List Loc} {cells slots : Nat} (hcs : cells + 7 ≤ 5000) (hss : slots + 82 ≤ 50000) (hP : va_P D vwCl ((va_pl Lc f ++ [(o, .inl (cL, 1, .inr (.inl gl)))]) ++ va_pl Lm fm) H) (hD : va_D (fun q : Nat => s.heap.size ≤ q) ((va_pl Lc f ++ [(o, .inl (cL, 1, .inr (.inl gl)))]) ++ va_pl Lm fm)) (hS : va_S (fun q : Nat => s.heap.size ≤ q) s.heap H locs) {i : Nat} (hi : i + 4 ≤ Ln) (hLn : Ln ≤ 2048) {ls : Array Slot} (hl : lv_has ls 7 [(4, .int (zI (i : Int))), (0, .ref b), (1, .ref (gA g 0)), (2, .ref (a 0)), (3, .ref o)]) {Q : State → Prop} (hE : KEnd p l e s m b below meth c cells slots Q D k cL (gA g 0) Lm a o i) : W p l e room_1 s m #[Value.ref b] below meth c H locs cells slots Q (F0 m 128 ls []) := by
  obtain ⟨hx, hb, hrt, hml, hown0, hts0, hXs, hbl, hlocks, hgv⟩ := id C0
  have hown : s.vm.findClass RL = some m.cls := hown0
  have hts : ∀ w ∈ wsL_law, w.before #[Value.ref b] s = true := fun w h => hts0 w (wsL_law_in w h)
  have hbA : ¬ (fun q : Nat => s.heap.size ≤ q) b := Nat.not_le.mpr hbl
  have hK := hC.1
  have hNW := hC.2.1
  have hA : ∀ q : Nat, s.heap.size ≤ q → (fun q : Nat => s.heap.size ≤ q) q := fun _ h => h
  have hAn : ∀ q : Nat, (fun q : Nat => s.heap.size ≤ q) q → s.heap.size ≤ q := fun _ h => h
  have hn0 := hO.1
  have hc0 := hO.2.2.2.1
  obtain ⟨z, hz, e1⟩ := law_num (xs (i + 1))
  obtain ⟨y, hy, e2⟩ := law_num (xs (i + 2))
  refine lv_aload_n hx hb dL_law_128 rfl (lv_at hl 2 rfl) ?_
  refine lv_aload_n hx hb dL_law_129 rfl (lv_at hl 1 rfl) ?_
  refine lv_iload hx hb dL_law_130 (lv_at hl 0 rfl) ?_
  refine zr_const hx hb dL_law_132 ?_
  refine zr_add hx hb dL_law_133 ?_
  refine law_ld hx hb hXs hbl hbA hS (j := i + 1) (by omega) (by omega) hLn e1 dL_law_134 ?_
  refine lv_aload_n hx hb dL_law_135 rfl (lv_at hl 1 rfl) ?_
  refine lv_iload hx hb dL_law_136 (lv_at hl 0 rfl) ?_
  refine zr_const hx hb dL_law_138 ?_
  refine zr_add hx hb dL_law_139 ?_
  refine law_ld hx hb hXs hbl hbA hS (j := i + 2) (by omega) (by omega) hLn e2 dL_law_140 ?_
  refine lv_aload_n hx hb dL_law_141 rfl (lv_at hl 4 rfl) ?_
  refine wr_callw (X := va_pl Lc f ++ [(o, .inl (cL, 1, .inr (.inl gl)))]) (vx_runSX (hh := [(0, 10, 13, 13), (0, 10, 17, 15), (0, 10, 21, 17)]) (As := [.ref (gA g 0), .int (zI z), .int (zI y), .ref o]) (rest := []) ⟨hx, hb, hml, hown, hts⟩ (kL_insert l D k cL Lc f g S hR hO o gl z hz y hy hlt s.heap.size H.size) (vx_cwSW 4 hts gL_law_L_insert rfl rfl rfl (by decide +kernel) ⟨Nat.le_of_ble_eq_true rfl, Nat.le_of_ble_eq_true rfl⟩) (xc_preS hC hX (vaP_l hP) hS.1 (vaD_l hD) hS hAn) rfl rfl hl.1 rfl (lv_room (Nat.le_of_ble_eq_true rfl)) dL_law_142 ⟨Nat.le_trans (show _ ≤ 5000 by omega) (Nat.le_of_ble_eq_true rfl), Nat.le_trans (show _ ≤ 50000 by omega) (Nat.le_of_ble_eq_true rfl)⟩) hP hD hS hA (fun r u H locs hu hP hD hS hz9 => ?_)
  obtain ⟨kk, v, S2, L2, F, g2, gl2, rfl, hkk, rfl, hg2, hR2, hO2, hv, hSp⟩ := hu
  refine lv_istore (lv' := [(5, .int (zI kk)), (4, .int (zI (i : Int))), (0, .ref b), (1, .ref (gA g 0)), (2, .ref (a 0)), (3, .ref o)]) hx hb dL_law_145 hl (by decide) rfl (fun ls hl => ?_)
  refine lv_aload_n hx hb dL_law_147 rfl (lv_at hl 4 rfl) ?_
  refine lv_aload_n hx hb dL_law_148 rfl (lv_at hl 2 rfl) ?_
  refine lv_iload hx hb dL_law_149 (lv_at hl 1 rfl) ?_
  refine zr_const hx hb dL_law_151 ?_
  refine zr_add hx hb dL_law_152 ?_
  refine law_ld hx hb hXs hbl hbA hS (j := i + 1) (by omega) (by omega) hLn e1 dL_law_153 ?_
  refine lv_aload_n hx hb dL_law_154 rfl (lv_at hl 2 rfl) ?_
  refine lv_iload hx hb dL_law_155 (lv_at hl 1 rfl) ?_
  refine zr_const hx hb dL_law_157 ?_
  refine zr_add hx hb dL_law_158 ?_
  refine law_ld hx hb hXs hbl hbA hS (j := i + 2) (by omega) (by omega) hLn e2 dL_law_159 ?_
  have hPm := tw_swapP hP
  have hDm := tw_swapD hD
  refine wr_calli (X := va_pl Lm fm) (va_runV (As := [.int (zI z), .int (zI y)]) (rest := []) ⟨hx, hb, hml, hown, hts⟩ (kM_insert l D k Lm fm S hO a tw A1 A2 A3 A4 A5 A6 A7 A8 A9 A10 hM hMT hY z hz y hy kk v S2 hSp s.heap.size H.size) (cwV 2 hts gL_law_X10_insert rfl rfl rfl (by decide +kernel) ⟨Nat.le_of_ble_eq_true rfl, Nat.le_of_ble_eq_true rfl⟩) (pc_preV hC.sub4 (vaP_l hPm) hS.1 (vaD_l hDm) hAn (pl_recv hK (vaP_l hPm) (hM.2.2.2.2.2.2.2.2.2.2.2.1 0 (by decide)) hM.1 (ci := 9) (q := (RX10, TX10, 13)) rfl)) rfl rfl hl.1 rfl (lv_room (Nat.le_of_ble_eq_true rfl)) dL_law_160 ⟨Nat.le_trans (show _ ≤ 5000 by omega) (Nat.le_of_ble_eq_true rfl), Nat.le_trans (show _ ≤ 50000 by omega) (Nat.le_of_ble_eq_true rfl)⟩) hPm hDm hS hA (fun r u H locs hu hPm hDm hS hz9 => ?_)
  obtain ⟨hrv, Fm, B1, B2, B3, B4, B5, B6, B7, B8, B9, B10, rfl, hM2, hY2⟩ := hu
  have hn2 := hO2.1
  have hc2 := hO2.2.2.2.1
  refine lv_istore (lv' := [(6, .int r), (5, .int (zI kk)), (4, .int (zI (i : Int))), (0, .ref b), (1, .ref (gA g 0)), (2, .ref (a 0)), (3, .ref o)]) hx hb dL_law_163 hl (by decide) rfl (fun ls hl => ?_)
  refine lv_aload_n hx hb dL_law_165 rfl (lv_at hl 5 rfl) ?_
  refine vp_callSi (va_Run.run (va_runV (As := []) (rest := []) ⟨hx, hb, hml, hown, hts⟩ (kX10_thrown l D k Lm Fm a kk (sN S2) (sC S2 : Int) B1 B2 B3 B4 B5 B6 B7 B8 B9 B10 hM2 (by omega) (by omega) (by omega)) (cwV 0 hts gL_law_X10_thrown rfl rfl rfl (by decide +kernel) ⟨Nat.le_of_ble_eq_true rfl, Nat.le_of_ble_eq_true rfl⟩) (rc_preV hC.sub4 (vaP_l hPm) (pl_recv hK (vaP_l hPm) (hM2.2.2.2.2.2.2.2.2.2.2.2.1 0 (by decide)) hM2.1 (ci := 9) (q := (RX10, TX10, 13)) rfl)) rfl rfl hl.1 rfl (lv_room (Nat.le_of_ble_eq_true rfl)) dL_law_166 ⟨Nat.le_trans (show _ ≤ 5000 by omega) (Nat.le_of_ble_eq_true rfl), Nat.le_trans (show _ ≤ 50000 by omega) (Nat.le_of_ble_eq_true rfl)⟩)) (fun r9 hr9 => ?_)
  have hr9 : r9 = zI kk := hr9
  subst hr9
  refine lv_iload hx hb dL_law_169 (lv_at hl 1 rfl) ?_
  refine zr_icmp_eq (tgt := 176) hx hb dL_law_171 (by decide) (by omega) (by omega) (fun _ => ?_) (fun c9 => absurd rfl c9)
  refine lv_iload hx hb dL_law_176 (lv_at hl 1 rfl) ?_
  have hend : W p l e room_1 s m #[Value.ref b] below meth c H locs (cells + 7) (slots + 82) Q (F0 m 193 ls []) := by
    refine lv_goto (tgt := 1280) hx hb dL_law_193 (by decide) ?_
    exact hE S2 L2 F g2 Fm kk B1 B2 B3 B4 B5 B6 B7 B8 B9 B10 gl2 H locs _ hR2 hO2 hg2 hM2 hkk hY2 (tw_swapP hPm) (tw_swapD hDm) hS (lv_sub hl [2, 3, 4, 5, 6] rfl)
  refine zr_if_ne (tgt := 193) hx hb dL_law_178 (by decide) (by omega) (fun _ => hend) (fun c0 => ?_)
  refine lv_aload_n hx hb dL_law_181 rfl (lv_at hl 6 rfl) ?_
  refine zr_const hx hb dL_law_182 ?_
  refine va_lald hx hb hK hPm _ 4 (tw_rk (X := va_pl Lm Fm) (tw_rk (X := va_pl L2 F) (i := 0) rfl)) rfl (zI_in (by omega) (by omega)) dL_law_183 ?_
  rw [show (zI 0).toNatClampNeg = 0 by decide]
  refine lv_iload hx hb dL_law_184 (lv_at hl 0 rfl) ?_
  refine lv_i2l (v := r.toInt64) hx hb dL_law_186 rfl ?_
  refine W.lcmp hx hb dL_law_187 ?_
  rw [lg_same (by rw [hv c0, hrv c0])]
  refine zr_if_eq (tgt := 193) hx hb dL_law_188 (by decide) (by omega) (fun _ => hend) (fun c9 => absurd rfl c9)

set_option maxHeartbeats 4000000 in
set_option maxRecDepth 100000 in
theorem lc_remove {p : Program} {l : Launch} {e : Env} {s : State} {m : MethodId} {below : List Frame} {meth : Method} {c : Code} {b Ln : Nat} {xs : Nat → Int32} (C0 : lw_At p s m meth c b Ln xs) (hlt : l.stackTraces = false) {D : va_G} {k : Nat → ClassId} {cL : ClassId} (hC : cK D (TYL k cL) s) (hX : xW s.heap.size s) {Lc : List Nat} {f : Nat → va_E} {g : CG} {S : SA} (hR : cRep k Lc f g S) (hO : aOK S) {Lm : List Nat} {fm : Nat → va_E} {a : Nat → Nat} {tw : Int} {A1 A2 A3 A4 A5 A6 A7 A8 A9 A10 : Nat → Int32} (hM : mRep k Lm fm a tw (sN S) (sC S : Int) A1 A2 A3 A4 A5 A6 A7 A8 A9 A10) (hMT : 0 ≤ tw ∧ tw ≤ 3) (hY : mSync S A1 A2 A3 A4 A5 A6 A7) {o : Nat} {gl : Nat → Int64} {H : Heap} {locs : List Loc} {cells slots : Nat} (hcs : cells + 7 ≤ 5000) (hss : slots + 82 ≤ 50000) (hP : va_P D vwCl ((va_pl Lc f ++ [(o, .inl (cL, 1, .inr (.inl gl)))]) ++ va_pl Lm fm) H) (hD : va_D (fun q : Nat => s.heap.size ≤ q) ((va_pl Lc f ++ [(o, .inl (cL, 1, .inr (.inl gl)))]) ++ va_pl Lm fm)) (hS : va_S (fun q : Nat => s.heap.size ≤ q) s.heap H locs) {i : Nat} (hi : i + 4 ≤ Ln) (hLn : Ln ≤ 2048) {ls : Array Slot} (hl : lv_has ls 7 [(4, .int (zI (i : Int))), (0, .ref b), (1, .ref (gA g 0)), (2, .ref (a 0)), (3, .ref o)]) {Q : State → Prop} (hE : KEnd p l e s m b below meth c cells slots Q D k cL (gA g 0) Lm a o i) : W p l e room_1 s m #[Value.ref b] below meth c H locs cells slots Q (F0 m 196 ls []) := by
  obtain ⟨hx, hb, hrt, hml, hown0, hts0, hXs, hbl, hlocks, hgv⟩ := id C0
  have hown : s.vm.findClass RL = some m.cls := hown0
  have hts : ∀ w ∈ wsL_law, w.before #[Value.ref b] s = true := fun w h => hts0 w (wsL_law_in w h)
  have hbA : ¬ (fun q : Nat => s.heap.size ≤ q) b := Nat.not_le.mpr hbl
  have hK := hC.1
  have hNW := hC.2.1
  have hA : ∀ q : Nat, s.heap.size ≤ q → (fun q : Nat => s.heap.size ≤ q) q := fun _ h => h
  have hAn : ∀ q : Nat, (fun q : Nat => s.heap.size ≤ q) q → s.heap.size ≤ q := fun _ h => h
  have hn0 := hO.1
  have hc0 := hO.2.2.2.1
  obtain ⟨z, hz, e1⟩ := law_num (xs (i + 1))
  refine lv_aload_n hx hb dL_law_196 rfl (lv_at hl 2 rfl) ?_
  refine lv_aload_n hx hb dL_law_197 rfl (lv_at hl 1 rfl) ?_
  refine lv_iload hx hb dL_law_198 (lv_at hl 0 rfl) ?_
  refine zr_const hx hb dL_law_200 ?_
  refine zr_add hx hb dL_law_201 ?_
  refine law_ld hx hb hXs hbl hbA hS (j := i + 1) (by omega) (by omega) hLn e1 dL_law_202 ?_
  refine lv_aload_n hx hb dL_law_203 rfl (lv_at hl 4 rfl) ?_
  refine wr_callw (X := va_pl Lc f ++ [(o, .inl (cL, 1, .inr (.inl gl)))]) (vx_runSX (hh := [(0, 9, 12, 13)]) (As := [.ref (gA g 0), .int (zI z), .ref o]) (rest := []) ⟨hx, hb, hml, hown, hts⟩ (kL_remove l D k cL Lc f g S hR hO o gl z hz hlt s.heap.size H.size) (vx_cwSW 3 hts gL_law_L_remove rfl rfl rfl (by decide +kernel) ⟨Nat.le_of_ble_eq_true rfl, Nat.le_of_ble_eq_true rfl⟩) (xc_preS hC hX (vaP_l hP) hS.1 (vaD_l hD) hS hAn) rfl rfl hl.1 rfl (lv_room (Nat.le_of_ble_eq_true rfl)) dL_law_204 ⟨Nat.le_trans (show _ ≤ 5000 by omega) (Nat.le_of_ble_eq_true rfl), Nat.le_trans (show _ ≤ 50000 by omega) (Nat.le_of_ble_eq_true rfl)⟩) hP hD hS hA (fun r u H locs hu hP hD hS hz9 => ?_)
  obtain ⟨kk, v, S2, L2, F, g2, gl2, rfl, hkk, rfl, hg2, hR2, hO2, hv, hSp⟩ := hu
  refine lv_istore (lv' := [(5, .int (zI kk)), (4, .int (zI (i : Int))), (0, .ref b), (1, .ref (gA g 0)), (2, .ref (a 0)), (3, .ref o)]) hx hb dL_law_207 hl (by decide) rfl (fun ls hl => ?_)
  refine lv_aload_n hx hb dL_law_209 rfl (lv_at hl 4 rfl) ?_
  refine lv_aload_n hx hb dL_law_210 rfl (lv_at hl 2 rfl) ?_
  refine lv_iload hx hb dL_law_211 (lv_at hl 1 rfl) ?_
  refine zr_const hx hb dL_law_213 ?_
  refine zr_add hx hb dL_law_214 ?_
  refine law_ld hx hb hXs hbl hbA hS (j := i + 1) (by omega) (by omega) hLn e1 dL_law_215 ?_
  have hPm := tw_swapP hP
  have hDm := tw_swapD hD
  refine wr_calli (X := va_pl Lm fm) (va_runV (As := [.int (zI z)]) (rest := []) ⟨hx, hb, hml, hown, hts⟩ (kM_remove l D k Lm fm S hO a tw A1 A2 A3 A4 A5 A6 A7 A8 A9 A10 hM hMT hY z hz kk v S2 hSp s.heap.size H.size) (cwV 1 hts gL_law_X10_remove rfl rfl rfl (by decide +kernel) ⟨Nat.le_of_ble_eq_true rfl, Nat.le_of_ble_eq_true rfl⟩) (pc_preV hC.sub4 (vaP_l hPm) hS.1 (vaD_l hDm) hAn (pl_recv hK (vaP_l hPm) (hM.2.2.2.2.2.2.2.2.2.2.2.1 0 (by decide)) hM.1 (ci := 9) (q := (RX10, TX10, 13)) rfl)) rfl rfl hl.1 rfl (lv_room (Nat.le_of_ble_eq_true rfl)) dL_law_216 ⟨Nat.le_trans (show _ ≤ 5000 by omega) (Nat.le_of_ble_eq_true rfl), Nat.le_trans (show _ ≤ 50000 by omega) (Nat.le_of_ble_eq_true rfl)⟩) hPm hDm hS hA (fun r u H locs hu hPm hDm hS hz9 => ?_)
  obtain ⟨hrv, Fm, B1, B2, B3, B4, B5, B6, B7, B8, B9, B10, rfl, hM2, hY2⟩ := hu
  have hn2 := hO2.1
  have hc2 := hO2.2.2.2.1
  refine lv_istore (lv' := [(6, .int r), (5, .int (zI kk)), (4, .int (zI (i : Int))), (0, .ref b), (1, .ref (gA g 0)), (2, .ref (a 0)), (3, .ref o)]) hx hb dL_law_219 hl (by decide) rfl (fun ls hl => ?_)
  refine lv_aload_n hx hb dL_law_221 rfl (lv_at hl 5 rfl) ?_
  refine vp_callSi (va_Run.run (va_runV (As := []) (rest := []) ⟨hx, hb, hml, hown, hts⟩ (kX10_thrown l D k Lm Fm a kk (sN S2) (sC S2 : Int) B1 B2 B3 B4 B5 B6 B7 B8 B9 B10 hM2 (by omega) (by omega) (by omega)) (cwV 0 hts gL_law_X10_thrown rfl rfl rfl (by decide +kernel) ⟨Nat.le_of_ble_eq_true rfl, Nat.le_of_ble_eq_true rfl⟩) (rc_preV hC.sub4 (vaP_l hPm) (pl_recv hK (vaP_l hPm) (hM2.2.2.2.2.2.2.2.2.2.2.2.1 0 (by decide)) hM2.1 (ci := 9) (q := (RX10, TX10, 13)) rfl)) rfl rfl hl.1 rfl (lv_room (Nat.le_of_ble_eq_true rfl)) dL_law_222 ⟨Nat.le_trans (show _ ≤ 5000 by omega) (Nat.le_of_ble_eq_true rfl), Nat.le_trans (show _ ≤ 50000 by omega) (Nat.le_of_ble_eq_true rfl)⟩)) (fun r9 hr9 => ?_)
  have hr9 : r9 = zI kk := hr9
  subst hr9
  refine lv_iload hx hb dL_law_225 (lv_at hl 1 rfl) ?_
  refine zr_icmp_eq (tgt := 232) hx hb dL_law_227 (by decide) (by omega) (by omega) (fun _ => ?_) (fun c9 => absurd rfl c9)
  refine lv_iload hx hb dL_law_232 (lv_at hl 1 rfl) ?_
  have hend : W p l e room_1 s m #[Value.ref b] below meth c H locs (cells + 7) (slots + 82) Q (F0 m 249 ls []) := by
    refine lv_goto (tgt := 1280) hx hb dL_law_249 (by decide) ?_
    exact hE S2 L2 F g2 Fm kk B1 B2 B3 B4 B5 B6 B7 B8 B9 B10 gl2 H locs _ hR2 hO2 hg2 hM2 hkk hY2 (tw_swapP hPm) (tw_swapD hDm) hS (lv_sub hl [2, 3, 4, 5, 6] rfl)
  refine zr_if_ne (tgt := 249) hx hb dL_law_234 (by decide) (by omega) (fun _ => hend) (fun c0 => ?_)
  refine lv_aload_n hx hb dL_law_237 rfl (lv_at hl 6 rfl) ?_
  refine zr_const hx hb dL_law_238 ?_
  refine va_lald hx hb hK hPm _ 4 (tw_rk (X := va_pl Lm Fm) (tw_rk (X := va_pl L2 F) (i := 0) rfl)) rfl (zI_in (by omega) (by omega)) dL_law_239 ?_
  rw [show (zI 0).toNatClampNeg = 0 by decide]
  refine lv_iload hx hb dL_law_240 (lv_at hl 0 rfl) ?_
  refine lv_i2l (v := r.toInt64) hx hb dL_law_242 rfl ?_
  refine W.lcmp hx hb dL_law_243 ?_
  rw [lg_same (by rw [hv c0, hrv c0])]
  refine zr_if_eq (tgt := 249) hx hb dL_law_244 (by decide) (by omega) (fun _ => hend) (fun c9 => absurd rfl c9)

set_option maxHeartbeats 4000000 in
set_option maxRecDepth 100000 in
theorem lc_letterAt {p : Program} {l : Launch} {e : Env} {s : State} {m : MethodId} {below : List Frame} {meth : Method} {c : Code} {b Ln : Nat} {xs : Nat → Int32} (C0 : lw_At p s m meth c b Ln xs) (hlt : l.stackTraces = false) {D : va_G} {k : Nat → ClassId} {cL : ClassId} (hC : cK D (TYL k cL) s) (hX : xW s.heap.size s) {Lc : List Nat} {f : Nat → va_E} {g : CG} {S : SA} (hR : cRep k Lc f g S) (hO : aOK S) {Lm : List Nat} {fm : Nat → va_E} {a : Nat → Nat} {tw : Int} {A1 A2 A3 A4 A5 A6 A7 A8 A9 A10 : Nat → Int32} (hM : mRep k Lm fm a tw (sN S) (sC S : Int) A1 A2 A3 A4 A5 A6 A7 A8 A9 A10) (hMT : 0 ≤ tw ∧ tw ≤ 3) (hY : mSync S A1 A2 A3 A4 A5 A6 A7) {o : Nat} {gl : Nat → Int64} {H : Heap} {locs : List Loc} {cells slots : Nat} (hcs : cells + 7 ≤ 5000) (hss : slots + 82 ≤ 50000) (hP : va_P D vwCl ((va_pl Lc f ++ [(o, .inl (cL, 1, .inr (.inl gl)))]) ++ va_pl Lm fm) H) (hD : va_D (fun q : Nat => s.heap.size ≤ q) ((va_pl Lc f ++ [(o, .inl (cL, 1, .inr (.inl gl)))]) ++ va_pl Lm fm)) (hS : va_S (fun q : Nat => s.heap.size ≤ q) s.heap H locs) {i : Nat} (hi : i + 4 ≤ Ln) (hLn : Ln ≤ 2048) {ls : Array Slot} (hl : lv_has ls 7 [(4, .int (zI (i : Int))), (0, .ref b), (1, .ref (gA g 0)), (2, .ref (a 0)), (3, .ref o)]) {Q : State → Prop} (hE : KEnd p l e s m b below meth c cells slots Q D k cL (gA g 0) Lm a o i) : W p l e room_1 s m #[Value.ref b] below meth c H locs cells slots Q (F0 m 265 ls []) := by
  obtain ⟨hx, hb, hrt, hml, hown0, hts0, hXs, hbl, hlocks, hgv⟩ := id C0
  have hown : s.vm.findClass RL = some m.cls := hown0
  have hts : ∀ w ∈ wsL_law, w.before #[Value.ref b] s = true := fun w h => hts0 w (wsL_law_in w h)
  have hbA : ¬ (fun q : Nat => s.heap.size ≤ q) b := Nat.not_le.mpr hbl
  have hK := hC.1
  have hNW := hC.2.1
  have hA : ∀ q : Nat, s.heap.size ≤ q → (fun q : Nat => s.heap.size ≤ q) q := fun _ h => h
  have hAn : ∀ q : Nat, (fun q : Nat => s.heap.size ≤ q) q → s.heap.size ≤ q := fun _ h => h
  have hn0 := hO.1
  have hc0 := hO.2.2.2.1
  obtain ⟨z, hz, e1⟩ := law_num (xs (i + 1))
  refine lv_aload_n hx hb dL_law_265 rfl (lv_at hl 2 rfl) ?_
  refine lv_aload_n hx hb dL_law_266 rfl (lv_at hl 1 rfl) ?_
  refine lv_iload hx hb dL_law_267 (lv_at hl 0 rfl) ?_
  refine zr_const hx hb dL_law_269 ?_
  refine zr_add hx hb dL_law_270 ?_
  refine law_ld hx hb hXs hbl hbA hS (j := i + 1) (by omega) (by omega) hLn e1 dL_law_271 ?_
  refine lv_aload_n hx hb dL_law_272 rfl (lv_at hl 4 rfl) ?_
  refine wr_callw (X := va_pl Lc f ++ [(o, .inl (cL, 1, .inr (.inl gl)))]) (vx_runSX (hh := [(0, 9, 12, 13)]) (As := [.ref (gA g 0), .int (zI z), .ref o]) (rest := []) ⟨hx, hb, hml, hown, hts⟩ (kL_letterAt l D k cL Lc f g S hR hO o gl z hz hlt s.heap.size H.size) (vx_cwSW 3 hts gL_law_L_letterAt rfl rfl rfl (by decide +kernel) ⟨Nat.le_of_ble_eq_true rfl, Nat.le_of_ble_eq_true rfl⟩) (xc_preS hC hX (vaP_l hP) hS.1 (vaD_l hD) hS hAn) rfl rfl hl.1 rfl (lv_room (Nat.le_of_ble_eq_true rfl)) dL_law_273 ⟨Nat.le_trans (show _ ≤ 5000 by omega) (Nat.le_of_ble_eq_true rfl), Nat.le_trans (show _ ≤ 50000 by omega) (Nat.le_of_ble_eq_true rfl)⟩) hP hD hS hA (fun r u H locs hu hP hD hS hz9 => ?_)
  obtain ⟨kk, v, S2, L2, F, g2, gl2, rfl, hkk, rfl, hg2, hR2, hO2, hv, hSp⟩ := hu
  refine lv_istore (lv' := [(5, .int (zI kk)), (4, .int (zI (i : Int))), (0, .ref b), (1, .ref (gA g 0)), (2, .ref (a 0)), (3, .ref o)]) hx hb dL_law_276 hl (by decide) rfl (fun ls hl => ?_)
  refine lv_aload_n hx hb dL_law_278 rfl (lv_at hl 4 rfl) ?_
  refine lv_aload_n hx hb dL_law_279 rfl (lv_at hl 2 rfl) ?_
  refine lv_iload hx hb dL_law_280 (lv_at hl 1 rfl) ?_
  refine zr_const hx hb dL_law_282 ?_
  refine zr_add hx hb dL_law_283 ?_
  refine law_ld hx hb hXs hbl hbA hS (j := i + 1) (by omega) (by omega) hLn e1 dL_law_284 ?_
  have hPm := tw_swapP hP
  have hDm := tw_swapD hD
  refine wr_calli (X := va_pl Lm fm) (va_runV (As := [.int (zI z)]) (rest := []) ⟨hx, hb, hml, hown, hts⟩ (kM_letterAt l D k Lm fm S hO a tw A1 A2 A3 A4 A5 A6 A7 A8 A9 A10 hM hMT hY z hz kk v S2 hSp s.heap.size H.size) (cwV 1 hts gL_law_X10_letterAt rfl rfl rfl (by decide +kernel) ⟨Nat.le_of_ble_eq_true rfl, Nat.le_of_ble_eq_true rfl⟩) (pc_preV hC.sub4 (vaP_l hPm) hS.1 (vaD_l hDm) hAn (pl_recv hK (vaP_l hPm) (hM.2.2.2.2.2.2.2.2.2.2.2.1 0 (by decide)) hM.1 (ci := 9) (q := (RX10, TX10, 13)) rfl)) rfl rfl hl.1 rfl (lv_room (Nat.le_of_ble_eq_true rfl)) dL_law_285 ⟨Nat.le_trans (show _ ≤ 5000 by omega) (Nat.le_of_ble_eq_true rfl), Nat.le_trans (show _ ≤ 50000 by omega) (Nat.le_of_ble_eq_true rfl)⟩) hPm hDm hS hA (fun r u H locs hu hPm hDm hS hz9 => ?_)
  obtain ⟨hrv, Fm, B1, B2, B3, B4, B5, B6, B7, B8, B9, B10, rfl, hM2, hY2⟩ := hu
  have hn2 := hO2.1
  have hc2 := hO2.2.2.2.1
  refine lv_istore (lv' := [(6, .int r), (5, .int (zI kk)), (4, .int (zI (i : Int))), (0, .ref b), (1, .ref (gA g 0)), (2, .ref (a 0)), (3, .ref o)]) hx hb dL_law_288 hl (by decide) rfl (fun ls hl => ?_)
  refine lv_aload_n hx hb dL_law_290 rfl (lv_at hl 5 rfl) ?_
  refine vp_callSi (va_Run.run (va_runV (As := []) (rest := []) ⟨hx, hb, hml, hown, hts⟩ (kX10_thrown l D k Lm Fm a kk (sN S2) (sC S2 : Int) B1 B2 B3 B4 B5 B6 B7 B8 B9 B10 hM2 (by omega) (by omega) (by omega)) (cwV 0 hts gL_law_X10_thrown rfl rfl rfl (by decide +kernel) ⟨Nat.le_of_ble_eq_true rfl, Nat.le_of_ble_eq_true rfl⟩) (rc_preV hC.sub4 (vaP_l hPm) (pl_recv hK (vaP_l hPm) (hM2.2.2.2.2.2.2.2.2.2.2.2.1 0 (by decide)) hM2.1 (ci := 9) (q := (RX10, TX10, 13)) rfl)) rfl rfl hl.1 rfl (lv_room (Nat.le_of_ble_eq_true rfl)) dL_law_291 ⟨Nat.le_trans (show _ ≤ 5000 by omega) (Nat.le_of_ble_eq_true rfl), Nat.le_trans (show _ ≤ 50000 by omega) (Nat.le_of_ble_eq_true rfl)⟩)) (fun r9 hr9 => ?_)
  have hr9 : r9 = zI kk := hr9
  subst hr9
  refine lv_iload hx hb dL_law_294 (lv_at hl 1 rfl) ?_
  refine zr_icmp_eq (tgt := 301) hx hb dL_law_296 (by decide) (by omega) (by omega) (fun _ => ?_) (fun c9 => absurd rfl c9)
  refine lv_iload hx hb dL_law_301 (lv_at hl 1 rfl) ?_
  have hend : W p l e room_1 s m #[Value.ref b] below meth c H locs (cells + 7) (slots + 82) Q (F0 m 318 ls []) := by
    refine lv_goto (tgt := 1280) hx hb dL_law_318 (by decide) ?_
    exact hE S2 L2 F g2 Fm kk B1 B2 B3 B4 B5 B6 B7 B8 B9 B10 gl2 H locs _ hR2 hO2 hg2 hM2 hkk hY2 (tw_swapP hPm) (tw_swapD hDm) hS (lv_sub hl [2, 3, 4, 5, 6] rfl)
  refine zr_if_ne (tgt := 318) hx hb dL_law_303 (by decide) (by omega) (fun _ => hend) (fun c0 => ?_)
  refine lv_aload_n hx hb dL_law_306 rfl (lv_at hl 6 rfl) ?_
  refine zr_const hx hb dL_law_307 ?_
  refine va_lald hx hb hK hPm _ 4 (tw_rk (X := va_pl Lm Fm) (tw_rk (X := va_pl L2 F) (i := 0) rfl)) rfl (zI_in (by omega) (by omega)) dL_law_308 ?_
  rw [show (zI 0).toNatClampNeg = 0 by decide]
  refine lv_iload hx hb dL_law_309 (lv_at hl 0 rfl) ?_
  refine lv_i2l (v := r.toInt64) hx hb dL_law_311 rfl ?_
  refine W.lcmp hx hb dL_law_312 ?_
  rw [lg_same (by rw [hv c0, hrv c0])]
  refine zr_if_eq (tgt := 318) hx hb dL_law_313 (by decide) (by omega) (fun _ => hend) (fun c9 => absurd rfl c9)

set_option maxHeartbeats 4000000 in
set_option maxRecDepth 100000 in
theorem lc_mark {p : Program} {l : Launch} {e : Env} {s : State} {m : MethodId} {below : List Frame} {meth : Method} {c : Code} {b Ln : Nat} {xs : Nat → Int32} (C0 : lw_At p s m meth c b Ln xs) (hlt : l.stackTraces = false) {D : va_G} {k : Nat → ClassId} {cL : ClassId} (hC : cK D (TYL k cL) s) (hX : xW s.heap.size s) {Lc : List Nat} {f : Nat → va_E} {g : CG} {S : SA} (hR : cRep k Lc f g S) (hO : aOK S) {Lm : List Nat} {fm : Nat → va_E} {a : Nat → Nat} {tw : Int} {A1 A2 A3 A4 A5 A6 A7 A8 A9 A10 : Nat → Int32} (hM : mRep k Lm fm a tw (sN S) (sC S : Int) A1 A2 A3 A4 A5 A6 A7 A8 A9 A10) (hMT : 0 ≤ tw ∧ tw ≤ 3) (hY : mSync S A1 A2 A3 A4 A5 A6 A7) {o : Nat} {gl : Nat → Int64} {H : Heap} {locs : List Loc} {cells slots : Nat} (hcs : cells + 7 ≤ 5000) (hss : slots + 82 ≤ 50000) (hP : va_P D vwCl ((va_pl Lc f ++ [(o, .inl (cL, 1, .inr (.inl gl)))]) ++ va_pl Lm fm) H) (hD : va_D (fun q : Nat => s.heap.size ≤ q) ((va_pl Lc f ++ [(o, .inl (cL, 1, .inr (.inl gl)))]) ++ va_pl Lm fm)) (hS : va_S (fun q : Nat => s.heap.size ≤ q) s.heap H locs) {i : Nat} (hi : i + 4 ≤ Ln) (hLn : Ln ≤ 2048) {ls : Array Slot} (hl : lv_has ls 7 [(4, .int (zI (i : Int))), (0, .ref b), (1, .ref (gA g 0)), (2, .ref (a 0)), (3, .ref o)]) {Q : State → Prop} (hE : KEnd p l e s m b below meth c cells slots Q D k cL (gA g 0) Lm a o i) : W p l e room_1 s m #[Value.ref b] below meth c H locs cells slots Q (F0 m 321 ls []) := by
  obtain ⟨hx, hb, hrt, hml, hown0, hts0, hXs, hbl, hlocks, hgv⟩ := id C0
  have hown : s.vm.findClass RL = some m.cls := hown0
  have hts : ∀ w ∈ wsL_law, w.before #[Value.ref b] s = true := fun w h => hts0 w (wsL_law_in w h)
  have hbA : ¬ (fun q : Nat => s.heap.size ≤ q) b := Nat.not_le.mpr hbl
  have hK := hC.1
  have hNW := hC.2.1
  have hA : ∀ q : Nat, s.heap.size ≤ q → (fun q : Nat => s.heap.size ≤ q) q := fun _ h => h
  have hAn : ∀ q : Nat, (fun q : Nat => s.heap.size ≤ q) q → s.heap.size ≤ q := fun _ h => h
  have hn0 := hO.1
  have hc0 := hO.2.2.2.1
  obtain ⟨z, hz, e1⟩ := law_num (xs (i + 1))
  obtain ⟨y, hy, e2⟩ := law_num (xs (i + 2))
  obtain ⟨x, hx9, e3⟩ := law_num (xs (i + 3))
  refine lv_aload_n hx hb dL_law_321 rfl (lv_at hl 2 rfl) ?_
  refine lv_aload_n hx hb dL_law_322 rfl (lv_at hl 1 rfl) ?_
  refine lv_iload hx hb dL_law_323 (lv_at hl 0 rfl) ?_
  refine zr_const hx hb dL_law_325 ?_
  refine zr_add hx hb dL_law_326 ?_
  refine law_ld hx hb hXs hbl hbA hS (j := i + 1) (by omega) (by omega) hLn e1 dL_law_327 ?_
  refine lv_aload_n hx hb dL_law_328 rfl (lv_at hl 1 rfl) ?_
  refine lv_iload hx hb dL_law_329 (lv_at hl 0 rfl) ?_
  refine zr_const hx hb dL_law_331 ?_
  refine zr_add hx hb dL_law_332 ?_
  refine law_ld hx hb hXs hbl hbA hS (j := i + 2) (by omega) (by omega) hLn e2 dL_law_333 ?_
  refine lv_aload_n hx hb dL_law_334 rfl (lv_at hl 1 rfl) ?_
  refine lv_iload hx hb dL_law_335 (lv_at hl 0 rfl) ?_
  refine zr_const hx hb dL_law_337 ?_
  refine zr_add hx hb dL_law_338 ?_
  refine law_ld hx hb hXs hbl hbA hS (j := i + 3) (by omega) (by omega) hLn e3 dL_law_339 ?_
  refine lv_aload_n hx hb dL_law_340 rfl (lv_at hl 4 rfl) ?_
  refine wr_callw (X := va_pl Lc f ++ [(o, .inl (cL, 1, .inr (.inl gl)))]) (vx_runSX (hh := [(0, 19, 22, 13), (0, 19, 26, 15)]) (As := [.ref (gA g 0), .int (zI z), .int (zI y), .int (zI x), .ref o]) (rest := []) ⟨hx, hb, hml, hown, hts⟩ (kL_mark l D k cL Lc f g S hR hO o gl z hz y hy x hx9 hlt s.heap.size H.size) (vx_cwSW 5 hts gL_law_L_mark rfl rfl rfl (by decide +kernel) ⟨Nat.le_of_ble_eq_true rfl, Nat.le_of_ble_eq_true rfl⟩) (xc_preS hC hX (vaP_l hP) hS.1 (vaD_l hD) hS hAn) rfl rfl hl.1 rfl (lv_room (Nat.le_of_ble_eq_true rfl)) dL_law_341 ⟨Nat.le_trans (show _ ≤ 5000 by omega) (Nat.le_of_ble_eq_true rfl), Nat.le_trans (show _ ≤ 50000 by omega) (Nat.le_of_ble_eq_true rfl)⟩) hP hD hS hA (fun r u H locs hu hP hD hS hz9 => ?_)
  obtain ⟨kk, v, S2, L2, F, g2, gl2, rfl, hkk, rfl, hg2, hR2, hO2, hv, hSp⟩ := hu
  refine lv_istore (lv' := [(5, .int (zI kk)), (4, .int (zI (i : Int))), (0, .ref b), (1, .ref (gA g 0)), (2, .ref (a 0)), (3, .ref o)]) hx hb dL_law_344 hl (by decide) rfl (fun ls hl => ?_)
  refine lv_aload_n hx hb dL_law_346 rfl (lv_at hl 4 rfl) ?_
  refine lv_aload_n hx hb dL_law_347 rfl (lv_at hl 2 rfl) ?_
  refine lv_iload hx hb dL_law_348 (lv_at hl 1 rfl) ?_
  refine zr_const hx hb dL_law_350 ?_
  refine zr_add hx hb dL_law_351 ?_
  refine law_ld hx hb hXs hbl hbA hS (j := i + 1) (by omega) (by omega) hLn e1 dL_law_352 ?_
  refine lv_aload_n hx hb dL_law_353 rfl (lv_at hl 2 rfl) ?_
  refine lv_iload hx hb dL_law_354 (lv_at hl 1 rfl) ?_
  refine zr_const hx hb dL_law_356 ?_
  refine zr_add hx hb dL_law_357 ?_
  refine law_ld hx hb hXs hbl hbA hS (j := i + 2) (by omega) (by omega) hLn e2 dL_law_358 ?_
  refine lv_aload_n hx hb dL_law_359 rfl (lv_at hl 2 rfl) ?_
  refine lv_iload hx hb dL_law_360 (lv_at hl 1 rfl) ?_
  refine zr_const hx hb dL_law_362 ?_
  refine zr_add hx hb dL_law_363 ?_
  refine law_ld hx hb hXs hbl hbA hS (j := i + 3) (by omega) (by omega) hLn e3 dL_law_364 ?_
  have hPm := tw_swapP hP
  have hDm := tw_swapD hD
  refine wr_calli (X := va_pl Lm fm) (va_runV (As := [.int (zI z), .int (zI y), .int (zI x)]) (rest := []) ⟨hx, hb, hml, hown, hts⟩ (kM_mark l D k Lm fm S hO a tw A1 A2 A3 A4 A5 A6 A7 A8 A9 A10 hM hMT hY z hz y hy x hx9 kk v S2 hSp s.heap.size H.size) (cwV 3 hts gL_law_X10_mark rfl rfl rfl (by decide +kernel) ⟨Nat.le_of_ble_eq_true rfl, Nat.le_of_ble_eq_true rfl⟩) (pc_preV hC.sub4 (vaP_l hPm) hS.1 (vaD_l hDm) hAn (pl_recv hK (vaP_l hPm) (hM.2.2.2.2.2.2.2.2.2.2.2.1 0 (by decide)) hM.1 (ci := 9) (q := (RX10, TX10, 13)) rfl)) rfl rfl hl.1 rfl (lv_room (Nat.le_of_ble_eq_true rfl)) dL_law_365 ⟨Nat.le_trans (show _ ≤ 5000 by omega) (Nat.le_of_ble_eq_true rfl), Nat.le_trans (show _ ≤ 50000 by omega) (Nat.le_of_ble_eq_true rfl)⟩) hPm hDm hS hA (fun r u H locs hu hPm hDm hS hz9 => ?_)
  obtain ⟨hrv, Fm, B1, B2, B3, B4, B5, B6, B7, B8, B9, B10, rfl, hM2, hY2⟩ := hu
  have hn2 := hO2.1
  have hc2 := hO2.2.2.2.1
  have hvb : kk = 0 → ∃ bb, v = bI bb := fun h9 => by rcases hSp with ⟨_, h8, _⟩ | ⟨_, _, h8, _⟩ | ⟨_, _, _, h8, _⟩ <;> first | omega | exact ⟨_, h8⟩
  refine lv_istore (lv' := [(6, .int r), (5, .int (zI kk)), (4, .int (zI (i : Int))), (0, .ref b), (1, .ref (gA g 0)), (2, .ref (a 0)), (3, .ref o)]) hx hb dL_law_368 hl (by decide) rfl (fun ls hl => ?_)
  refine lv_aload_n hx hb dL_law_370 rfl (lv_at hl 5 rfl) ?_
  refine vp_callSi (va_Run.run (va_runV (As := []) (rest := []) ⟨hx, hb, hml, hown, hts⟩ (kX10_thrown l D k Lm Fm a kk (sN S2) (sC S2 : Int) B1 B2 B3 B4 B5 B6 B7 B8 B9 B10 hM2 (by omega) (by omega) (by omega)) (cwV 0 hts gL_law_X10_thrown rfl rfl rfl (by decide +kernel) ⟨Nat.le_of_ble_eq_true rfl, Nat.le_of_ble_eq_true rfl⟩) (rc_preV hC.sub4 (vaP_l hPm) (pl_recv hK (vaP_l hPm) (hM2.2.2.2.2.2.2.2.2.2.2.2.1 0 (by decide)) hM2.1 (ci := 9) (q := (RX10, TX10, 13)) rfl)) rfl rfl hl.1 rfl (lv_room (Nat.le_of_ble_eq_true rfl)) dL_law_371 ⟨Nat.le_trans (show _ ≤ 5000 by omega) (Nat.le_of_ble_eq_true rfl), Nat.le_trans (show _ ≤ 50000 by omega) (Nat.le_of_ble_eq_true rfl)⟩)) (fun r9 hr9 => ?_)
  have hr9 : r9 = zI kk := hr9
  subst hr9
  refine lv_iload hx hb dL_law_374 (lv_at hl 1 rfl) ?_
  refine zr_icmp_eq (tgt := 381) hx hb dL_law_376 (by decide) (by omega) (by omega) (fun _ => ?_) (fun c9 => absurd rfl c9)
  refine lv_iload hx hb dL_law_381 (lv_at hl 1 rfl) ?_
  have hend : W p l e room_1 s m #[Value.ref b] below meth c H locs (cells + 7) (slots + 82) Q (F0 m 405 ls []) := by
    refine lv_goto (tgt := 1280) hx hb dL_law_405 (by decide) ?_
    exact hE S2 L2 F g2 Fm kk B1 B2 B3 B4 B5 B6 B7 B8 B9 B10 gl2 H locs _ hR2 hO2 hg2 hM2 hkk hY2 (tw_swapP hPm) (tw_swapD hDm) hS (lv_sub hl [2, 3, 4, 5, 6] rfl)
  refine zr_if_ne (tgt := 405) hx hb dL_law_383 (by decide) (by omega) (fun _ => hend) (fun c0 => ?_)
  refine lv_aload_n hx hb dL_law_386 rfl (lv_at hl 6 rfl) ?_
  refine zr_const hx hb dL_law_387 ?_
  refine va_lald hx hb hK hPm _ 4 (tw_rk (X := va_pl Lm Fm) (tw_rk (X := va_pl L2 F) (i := 0) rfl)) rfl (zI_in (by omega) (by omega)) dL_law_388 ?_
  rw [show (zI 0).toNatClampNeg = 0 by decide]
  refine lv_iload hx hb dL_law_389 (lv_at hl 0 rfl) ?_
  obtain ⟨bb, hbb⟩ := hvb c0
  rw [hrv c0, hbb]
  refine zr_ifb_eq (tgt := 398) hx hb dL_law_391 (by decide) (fun c1 => ?_) (fun c1 => ?_)
  · refine lv_lconst (v := 0) hx hb dL_law_398 (by decide) ?_
    refine W.lcmp hx hb dL_law_399 ?_
    rw [lg_same (by rw [hv c0, hbb, c1]; decide)]
    refine zr_if_eq (tgt := 405) hx hb dL_law_400 (by decide) (by omega) (fun _ => hend) (fun c9 => absurd rfl c9)
  · refine lv_lconst (v := 1) hx hb dL_law_394 (by decide) ?_
    refine lv_goto (tgt := 399) hx hb dL_law_395 (by decide) ?_
    refine W.lcmp hx hb dL_law_399 ?_
    rw [lg_same (by rw [hv c0, hbb, c1]; decide)]
    refine zr_if_eq (tgt := 405) hx hb dL_law_400 (by decide) (by omega) (fun _ => hend) (fun c9 => absurd rfl c9)

set_option maxHeartbeats 4000000 in
set_option maxRecDepth 100000 in
theorem lc_unmark {p : Program} {l : Launch} {e : Env} {s : State} {m : MethodId} {below : List Frame} {meth : Method} {c : Code} {b Ln : Nat} {xs : Nat → Int32} (C0 : lw_At p s m meth c b Ln xs) (hlt : l.stackTraces = false) {D : va_G} {k : Nat → ClassId} {cL : ClassId} (hC : cK D (TYL k cL) s) (hX : xW s.heap.size s) {Lc : List Nat} {f : Nat → va_E} {g : CG} {S : SA} (hR : cRep k Lc f g S) (hO : aOK S) {Lm : List Nat} {fm : Nat → va_E} {a : Nat → Nat} {tw : Int} {A1 A2 A3 A4 A5 A6 A7 A8 A9 A10 : Nat → Int32} (hM : mRep k Lm fm a tw (sN S) (sC S : Int) A1 A2 A3 A4 A5 A6 A7 A8 A9 A10) (hMT : 0 ≤ tw ∧ tw ≤ 3) (hY : mSync S A1 A2 A3 A4 A5 A6 A7) {o : Nat} {gl : Nat → Int64} {H : Heap} {locs : List Loc} {cells slots : Nat} (hcs : cells + 7 ≤ 5000) (hss : slots + 82 ≤ 50000) (hP : va_P D vwCl ((va_pl Lc f ++ [(o, .inl (cL, 1, .inr (.inl gl)))]) ++ va_pl Lm fm) H) (hD : va_D (fun q : Nat => s.heap.size ≤ q) ((va_pl Lc f ++ [(o, .inl (cL, 1, .inr (.inl gl)))]) ++ va_pl Lm fm)) (hS : va_S (fun q : Nat => s.heap.size ≤ q) s.heap H locs) {i : Nat} (hi : i + 4 ≤ Ln) (hLn : Ln ≤ 2048) {ls : Array Slot} (hl : lv_has ls 7 [(4, .int (zI (i : Int))), (0, .ref b), (1, .ref (gA g 0)), (2, .ref (a 0)), (3, .ref o)]) {Q : State → Prop} (hE : KEnd p l e s m b below meth c cells slots Q D k cL (gA g 0) Lm a o i) : W p l e room_1 s m #[Value.ref b] below meth c H locs cells slots Q (F0 m 408 ls []) := by
  obtain ⟨hx, hb, hrt, hml, hown0, hts0, hXs, hbl, hlocks, hgv⟩ := id C0
  have hown : s.vm.findClass RL = some m.cls := hown0
  have hts : ∀ w ∈ wsL_law, w.before #[Value.ref b] s = true := fun w h => hts0 w (wsL_law_in w h)
  have hbA : ¬ (fun q : Nat => s.heap.size ≤ q) b := Nat.not_le.mpr hbl
  have hK := hC.1
  have hNW := hC.2.1
  have hA : ∀ q : Nat, s.heap.size ≤ q → (fun q : Nat => s.heap.size ≤ q) q := fun _ h => h
  have hAn : ∀ q : Nat, (fun q : Nat => s.heap.size ≤ q) q → s.heap.size ≤ q := fun _ h => h
  have hn0 := hO.1
  have hc0 := hO.2.2.2.1
  obtain ⟨z, hz, e1⟩ := law_num (xs (i + 1))
  obtain ⟨y, hy, e2⟩ := law_num (xs (i + 2))
  refine lv_aload_n hx hb dL_law_408 rfl (lv_at hl 2 rfl) ?_
  refine lv_aload_n hx hb dL_law_409 rfl (lv_at hl 1 rfl) ?_
  refine lv_iload hx hb dL_law_410 (lv_at hl 0 rfl) ?_
  refine zr_const hx hb dL_law_412 ?_
  refine zr_add hx hb dL_law_413 ?_
  refine law_ld hx hb hXs hbl hbA hS (j := i + 1) (by omega) (by omega) hLn e1 dL_law_414 ?_
  refine lv_aload_n hx hb dL_law_415 rfl (lv_at hl 1 rfl) ?_
  refine lv_iload hx hb dL_law_416 (lv_at hl 0 rfl) ?_
  refine zr_const hx hb dL_law_418 ?_
  refine zr_add hx hb dL_law_419 ?_
  refine law_ld hx hb hXs hbl hbA hS (j := i + 2) (by omega) (by omega) hLn e2 dL_law_420 ?_
  refine lv_aload_n hx hb dL_law_421 rfl (lv_at hl 4 rfl) ?_
  refine wr_callw (X := va_pl Lc f ++ [(o, .inl (cL, 1, .inr (.inl gl)))]) (vx_runSX (hh := [(0, 10, 13, 13)]) (As := [.ref (gA g 0), .int (zI z), .int (zI y), .ref o]) (rest := []) ⟨hx, hb, hml, hown, hts⟩ (kL_unmark l D k cL Lc f g S hR hO o gl z hz y hy hlt s.heap.size H.size) (vx_cwSW 4 hts gL_law_L_unmark rfl rfl rfl (by decide +kernel) ⟨Nat.le_of_ble_eq_true rfl, Nat.le_of_ble_eq_true rfl⟩) (xc_preS hC hX (vaP_l hP) hS.1 (vaD_l hD) hS hAn) rfl rfl hl.1 rfl (lv_room (Nat.le_of_ble_eq_true rfl)) dL_law_422 ⟨Nat.le_trans (show _ ≤ 5000 by omega) (Nat.le_of_ble_eq_true rfl), Nat.le_trans (show _ ≤ 50000 by omega) (Nat.le_of_ble_eq_true rfl)⟩) hP hD hS hA (fun r u H locs hu hP hD hS hz9 => ?_)
  obtain ⟨kk, v, S2, L2, F, g2, gl2, rfl, hkk, rfl, hg2, hR2, hO2, hv, hSp⟩ := hu
  refine lv_istore (lv' := [(5, .int (zI kk)), (4, .int (zI (i : Int))), (0, .ref b), (1, .ref (gA g 0)), (2, .ref (a 0)), (3, .ref o)]) hx hb dL_law_425 hl (by decide) rfl (fun ls hl => ?_)
  refine lv_aload_n hx hb dL_law_427 rfl (lv_at hl 4 rfl) ?_
  refine lv_aload_n hx hb dL_law_428 rfl (lv_at hl 2 rfl) ?_
  refine lv_iload hx hb dL_law_429 (lv_at hl 1 rfl) ?_
  refine zr_const hx hb dL_law_431 ?_
  refine zr_add hx hb dL_law_432 ?_
  refine law_ld hx hb hXs hbl hbA hS (j := i + 1) (by omega) (by omega) hLn e1 dL_law_433 ?_
  refine lv_aload_n hx hb dL_law_434 rfl (lv_at hl 2 rfl) ?_
  refine lv_iload hx hb dL_law_435 (lv_at hl 1 rfl) ?_
  refine zr_const hx hb dL_law_437 ?_
  refine zr_add hx hb dL_law_438 ?_
  refine law_ld hx hb hXs hbl hbA hS (j := i + 2) (by omega) (by omega) hLn e2 dL_law_439 ?_
  have hPm := tw_swapP hP
  have hDm := tw_swapD hD
  refine wr_calli (X := va_pl Lm fm) (va_runV (As := [.int (zI z), .int (zI y)]) (rest := []) ⟨hx, hb, hml, hown, hts⟩ (kM_unmark l D k Lm fm S hO a tw A1 A2 A3 A4 A5 A6 A7 A8 A9 A10 hM hMT hY z hz y hy kk v S2 hSp s.heap.size H.size) (cwV 2 hts gL_law_X10_unmark rfl rfl rfl (by decide +kernel) ⟨Nat.le_of_ble_eq_true rfl, Nat.le_of_ble_eq_true rfl⟩) (pc_preV hC.sub4 (vaP_l hPm) hS.1 (vaD_l hDm) hAn (pl_recv hK (vaP_l hPm) (hM.2.2.2.2.2.2.2.2.2.2.2.1 0 (by decide)) hM.1 (ci := 9) (q := (RX10, TX10, 13)) rfl)) rfl rfl hl.1 rfl (lv_room (Nat.le_of_ble_eq_true rfl)) dL_law_440 ⟨Nat.le_trans (show _ ≤ 5000 by omega) (Nat.le_of_ble_eq_true rfl), Nat.le_trans (show _ ≤ 50000 by omega) (Nat.le_of_ble_eq_true rfl)⟩) hPm hDm hS hA (fun r u H locs hu hPm hDm hS hz9 => ?_)
  obtain ⟨hrv, Fm, B1, B2, B3, B4, B5, B6, B7, B8, B9, B10, rfl, hM2, hY2⟩ := hu
  have hn2 := hO2.1
  have hc2 := hO2.2.2.2.1
  refine lv_istore (lv' := [(6, .int r), (5, .int (zI kk)), (4, .int (zI (i : Int))), (0, .ref b), (1, .ref (gA g 0)), (2, .ref (a 0)), (3, .ref o)]) hx hb dL_law_443 hl (by decide) rfl (fun ls hl => ?_)
  refine lv_aload_n hx hb dL_law_445 rfl (lv_at hl 5 rfl) ?_
  refine vp_callSi (va_Run.run (va_runV (As := []) (rest := []) ⟨hx, hb, hml, hown, hts⟩ (kX10_thrown l D k Lm Fm a kk (sN S2) (sC S2 : Int) B1 B2 B3 B4 B5 B6 B7 B8 B9 B10 hM2 (by omega) (by omega) (by omega)) (cwV 0 hts gL_law_X10_thrown rfl rfl rfl (by decide +kernel) ⟨Nat.le_of_ble_eq_true rfl, Nat.le_of_ble_eq_true rfl⟩) (rc_preV hC.sub4 (vaP_l hPm) (pl_recv hK (vaP_l hPm) (hM2.2.2.2.2.2.2.2.2.2.2.2.1 0 (by decide)) hM2.1 (ci := 9) (q := (RX10, TX10, 13)) rfl)) rfl rfl hl.1 rfl (lv_room (Nat.le_of_ble_eq_true rfl)) dL_law_446 ⟨Nat.le_trans (show _ ≤ 5000 by omega) (Nat.le_of_ble_eq_true rfl), Nat.le_trans (show _ ≤ 50000 by omega) (Nat.le_of_ble_eq_true rfl)⟩)) (fun r9 hr9 => ?_)
  have hr9 : r9 = zI kk := hr9
  subst hr9
  refine lv_iload hx hb dL_law_449 (lv_at hl 1 rfl) ?_
  refine zr_icmp_eq (tgt := 456) hx hb dL_law_451 (by decide) (by omega) (by omega) (fun _ => ?_) (fun c9 => absurd rfl c9)
  refine lv_iload hx hb dL_law_456 (lv_at hl 1 rfl) ?_
  have hend : W p l e room_1 s m #[Value.ref b] below meth c H locs (cells + 7) (slots + 82) Q (F0 m 473 ls []) := by
    refine lv_goto (tgt := 1280) hx hb dL_law_473 (by decide) ?_
    exact hE S2 L2 F g2 Fm kk B1 B2 B3 B4 B5 B6 B7 B8 B9 B10 gl2 H locs _ hR2 hO2 hg2 hM2 hkk hY2 (tw_swapP hPm) (tw_swapD hDm) hS (lv_sub hl [2, 3, 4, 5, 6] rfl)
  refine zr_if_ne (tgt := 473) hx hb dL_law_458 (by decide) (by omega) (fun _ => hend) (fun c0 => ?_)
  refine lv_aload_n hx hb dL_law_461 rfl (lv_at hl 6 rfl) ?_
  refine zr_const hx hb dL_law_462 ?_
  refine va_lald hx hb hK hPm _ 4 (tw_rk (X := va_pl Lm Fm) (tw_rk (X := va_pl L2 F) (i := 0) rfl)) rfl (zI_in (by omega) (by omega)) dL_law_463 ?_
  rw [show (zI 0).toNatClampNeg = 0 by decide]
  refine lv_iload hx hb dL_law_464 (lv_at hl 0 rfl) ?_
  refine lv_i2l (v := r.toInt64) hx hb dL_law_466 rfl ?_
  refine W.lcmp hx hb dL_law_467 ?_
  rw [lg_same (by rw [hv c0, hrv c0])]
  refine zr_if_eq (tgt := 473) hx hb dL_law_468 (by decide) (by omega) (fun _ => hend) (fun c9 => absurd rfl c9)

set_option maxHeartbeats 4000000 in
set_option maxRecDepth 100000 in
theorem lc_letter {p : Program} {l : Launch} {e : Env} {s : State} {m : MethodId} {below : List Frame} {meth : Method} {c : Code} {b Ln : Nat} {xs : Nat → Int32} (C0 : lw_At p s m meth c b Ln xs) (hlt : l.stackTraces = false) {D : va_G} {k : Nat → ClassId} {cL : ClassId} (hC : cK D (TYL k cL) s) (hX : xW s.heap.size s) {Lc : List Nat} {f : Nat → va_E} {g : CG} {S : SA} (hR : cRep k Lc f g S) (hO : aOK S) {Lm : List Nat} {fm : Nat → va_E} {a : Nat → Nat} {tw : Int} {A1 A2 A3 A4 A5 A6 A7 A8 A9 A10 : Nat → Int32} (hM : mRep k Lm fm a tw (sN S) (sC S : Int) A1 A2 A3 A4 A5 A6 A7 A8 A9 A10) (hMT : 0 ≤ tw ∧ tw ≤ 3) (hY : mSync S A1 A2 A3 A4 A5 A6 A7) {o : Nat} {gl : Nat → Int64} {H : Heap} {locs : List Loc} {cells slots : Nat} (hcs : cells + 7 ≤ 5000) (hss : slots + 82 ≤ 50000) (hP : va_P D vwCl ((va_pl Lc f ++ [(o, .inl (cL, 1, .inr (.inl gl)))]) ++ va_pl Lm fm) H) (hD : va_D (fun q : Nat => s.heap.size ≤ q) ((va_pl Lc f ++ [(o, .inl (cL, 1, .inr (.inl gl)))]) ++ va_pl Lm fm)) (hS : va_S (fun q : Nat => s.heap.size ≤ q) s.heap H locs) {i : Nat} (hi : i + 4 ≤ Ln) (hLn : Ln ≤ 2048) {ls : Array Slot} (hl : lv_has ls 7 [(4, .int (zI (i : Int))), (0, .ref b), (1, .ref (gA g 0)), (2, .ref (a 0)), (3, .ref o)]) {Q : State → Prop} (hE : KEnd p l e s m b below meth c cells slots Q D k cL (gA g 0) Lm a o i) : W p l e room_1 s m #[Value.ref b] below meth c H locs cells slots Q (F0 m 476 ls []) := by
  obtain ⟨hx, hb, hrt, hml, hown0, hts0, hXs, hbl, hlocks, hgv⟩ := id C0
  have hown : s.vm.findClass RL = some m.cls := hown0
  have hts : ∀ w ∈ wsL_law, w.before #[Value.ref b] s = true := fun w h => hts0 w (wsL_law_in w h)
  have hbA : ¬ (fun q : Nat => s.heap.size ≤ q) b := Nat.not_le.mpr hbl
  have hK := hC.1
  have hNW := hC.2.1
  have hA : ∀ q : Nat, s.heap.size ≤ q → (fun q : Nat => s.heap.size ≤ q) q := fun _ h => h
  have hAn : ∀ q : Nat, (fun q : Nat => s.heap.size ≤ q) q → s.heap.size ≤ q := fun _ h => h
  have hn0 := hO.1
  have hc0 := hO.2.2.2.1
  obtain ⟨z, hz, e1⟩ := law_num (xs (i + 1))
  refine lv_aload_n hx hb dL_law_476 rfl (lv_at hl 2 rfl) ?_
  refine lv_aload_n hx hb dL_law_477 rfl (lv_at hl 1 rfl) ?_
  refine lv_iload hx hb dL_law_478 (lv_at hl 0 rfl) ?_
  refine zr_const hx hb dL_law_480 ?_
  refine zr_add hx hb dL_law_481 ?_
  refine law_ld hx hb hXs hbl hbA hS (j := i + 1) (by omega) (by omega) hLn e1 dL_law_482 ?_
  refine lv_aload_n hx hb dL_law_483 rfl (lv_at hl 4 rfl) ?_
  refine wr_callw (X := va_pl Lc f ++ [(o, .inl (cL, 1, .inr (.inl gl)))]) (vx_runSX (hh := [(0, 9, 12, 15), (0, 9, 15, 17)]) (As := [.ref (gA g 0), .int (zI z), .ref o]) (rest := []) ⟨hx, hb, hml, hown, hts⟩ (kL_letter l D k cL Lc f g S hR hO o gl z hz hlt s.heap.size H.size) (vx_cwSW 3 hts gL_law_L_letter rfl rfl rfl (by decide +kernel) ⟨Nat.le_of_ble_eq_true rfl, Nat.le_of_ble_eq_true rfl⟩) (xc_preS hC hX (vaP_l hP) hS.1 (vaD_l hD) hS hAn) rfl rfl hl.1 rfl (lv_room (Nat.le_of_ble_eq_true rfl)) dL_law_484 ⟨Nat.le_trans (show _ ≤ 5000 by omega) (Nat.le_of_ble_eq_true rfl), Nat.le_trans (show _ ≤ 50000 by omega) (Nat.le_of_ble_eq_true rfl)⟩) hP hD hS hA (fun r u H locs hu hP hD hS hz9 => ?_)
  obtain ⟨kk, v, S2, L2, F, g2, gl2, rfl, hkk, rfl, hg2, hR2, hO2, hv, hSp⟩ := hu
  refine lv_istore (lv' := [(5, .int (zI kk)), (4, .int (zI (i : Int))), (0, .ref b), (1, .ref (gA g 0)), (2, .ref (a 0)), (3, .ref o)]) hx hb dL_law_487 hl (by decide) rfl (fun ls hl => ?_)
  refine lv_aload_n hx hb dL_law_489 rfl (lv_at hl 4 rfl) ?_
  refine lv_aload_n hx hb dL_law_490 rfl (lv_at hl 2 rfl) ?_
  refine lv_iload hx hb dL_law_491 (lv_at hl 1 rfl) ?_
  refine zr_const hx hb dL_law_493 ?_
  refine zr_add hx hb dL_law_494 ?_
  refine law_ld hx hb hXs hbl hbA hS (j := i + 1) (by omega) (by omega) hLn e1 dL_law_495 ?_
  have hPm := tw_swapP hP
  have hDm := tw_swapD hD
  refine wr_calli (X := va_pl Lm fm) (va_runV (As := [.int (zI z)]) (rest := []) ⟨hx, hb, hml, hown, hts⟩ (kM_letter l D k Lm fm S hO a tw A1 A2 A3 A4 A5 A6 A7 A8 A9 A10 hM hMT hY z hz kk v S2 hSp s.heap.size H.size) (cwV 1 hts gL_law_X10_letter rfl rfl rfl (by decide +kernel) ⟨Nat.le_of_ble_eq_true rfl, Nat.le_of_ble_eq_true rfl⟩) (pc_preV hC.sub4 (vaP_l hPm) hS.1 (vaD_l hDm) hAn (pl_recv hK (vaP_l hPm) (hM.2.2.2.2.2.2.2.2.2.2.2.1 0 (by decide)) hM.1 (ci := 9) (q := (RX10, TX10, 13)) rfl)) rfl rfl hl.1 rfl (lv_room (Nat.le_of_ble_eq_true rfl)) dL_law_496 ⟨Nat.le_trans (show _ ≤ 5000 by omega) (Nat.le_of_ble_eq_true rfl), Nat.le_trans (show _ ≤ 50000 by omega) (Nat.le_of_ble_eq_true rfl)⟩) hPm hDm hS hA (fun r u H locs hu hPm hDm hS hz9 => ?_)
  obtain ⟨hrv, Fm, B1, B2, B3, B4, B5, B6, B7, B8, B9, B10, rfl, hM2, hY2⟩ := hu
  have hn2 := hO2.1
  have hc2 := hO2.2.2.2.1
  refine lv_istore (lv' := [(6, .int r), (5, .int (zI kk)), (4, .int (zI (i : Int))), (0, .ref b), (1, .ref (gA g 0)), (2, .ref (a 0)), (3, .ref o)]) hx hb dL_law_499 hl (by decide) rfl (fun ls hl => ?_)
  refine lv_aload_n hx hb dL_law_501 rfl (lv_at hl 5 rfl) ?_
  refine vp_callSi (va_Run.run (va_runV (As := []) (rest := []) ⟨hx, hb, hml, hown, hts⟩ (kX10_thrown l D k Lm Fm a kk (sN S2) (sC S2 : Int) B1 B2 B3 B4 B5 B6 B7 B8 B9 B10 hM2 (by omega) (by omega) (by omega)) (cwV 0 hts gL_law_X10_thrown rfl rfl rfl (by decide +kernel) ⟨Nat.le_of_ble_eq_true rfl, Nat.le_of_ble_eq_true rfl⟩) (rc_preV hC.sub4 (vaP_l hPm) (pl_recv hK (vaP_l hPm) (hM2.2.2.2.2.2.2.2.2.2.2.2.1 0 (by decide)) hM2.1 (ci := 9) (q := (RX10, TX10, 13)) rfl)) rfl rfl hl.1 rfl (lv_room (Nat.le_of_ble_eq_true rfl)) dL_law_502 ⟨Nat.le_trans (show _ ≤ 5000 by omega) (Nat.le_of_ble_eq_true rfl), Nat.le_trans (show _ ≤ 50000 by omega) (Nat.le_of_ble_eq_true rfl)⟩)) (fun r9 hr9 => ?_)
  have hr9 : r9 = zI kk := hr9
  subst hr9
  refine lv_iload hx hb dL_law_505 (lv_at hl 1 rfl) ?_
  refine zr_icmp_eq (tgt := 512) hx hb dL_law_507 (by decide) (by omega) (by omega) (fun _ => ?_) (fun c9 => absurd rfl c9)
  refine lv_iload hx hb dL_law_512 (lv_at hl 1 rfl) ?_
  have hend : W p l e room_1 s m #[Value.ref b] below meth c H locs (cells + 7) (slots + 82) Q (F0 m 529 ls []) := by
    refine lv_goto (tgt := 1280) hx hb dL_law_529 (by decide) ?_
    exact hE S2 L2 F g2 Fm kk B1 B2 B3 B4 B5 B6 B7 B8 B9 B10 gl2 H locs _ hR2 hO2 hg2 hM2 hkk hY2 (tw_swapP hPm) (tw_swapD hDm) hS (lv_sub hl [2, 3, 4, 5, 6] rfl)
  refine zr_if_ne (tgt := 529) hx hb dL_law_514 (by decide) (by omega) (fun _ => hend) (fun c0 => ?_)
  refine lv_aload_n hx hb dL_law_517 rfl (lv_at hl 6 rfl) ?_
  refine zr_const hx hb dL_law_518 ?_
  refine va_lald hx hb hK hPm _ 4 (tw_rk (X := va_pl Lm Fm) (tw_rk (X := va_pl L2 F) (i := 0) rfl)) rfl (zI_in (by omega) (by omega)) dL_law_519 ?_
  rw [show (zI 0).toNatClampNeg = 0 by decide]
  refine lv_iload hx hb dL_law_520 (lv_at hl 0 rfl) ?_
  refine lv_i2l (v := r.toInt64) hx hb dL_law_522 rfl ?_
  refine W.lcmp hx hb dL_law_523 ?_
  rw [lg_same (by rw [hv c0, hrv c0])]
  refine zr_if_eq (tgt := 529) hx hb dL_law_524 (by decide) (by omega) (fun _ => hend) (fun c9 => absurd rfl c9)

set_option maxHeartbeats 4000000 in
set_option maxRecDepth 100000 in
theorem lc_marked {p : Program} {l : Launch} {e : Env} {s : State} {m : MethodId} {below : List Frame} {meth : Method} {c : Code} {b Ln : Nat} {xs : Nat → Int32} (C0 : lw_At p s m meth c b Ln xs) (hlt : l.stackTraces = false) {D : va_G} {k : Nat → ClassId} {cL : ClassId} (hC : cK D (TYL k cL) s) (hX : xW s.heap.size s) {Lc : List Nat} {f : Nat → va_E} {g : CG} {S : SA} (hR : cRep k Lc f g S) (hO : aOK S) {Lm : List Nat} {fm : Nat → va_E} {a : Nat → Nat} {tw : Int} {A1 A2 A3 A4 A5 A6 A7 A8 A9 A10 : Nat → Int32} (hM : mRep k Lm fm a tw (sN S) (sC S : Int) A1 A2 A3 A4 A5 A6 A7 A8 A9 A10) (hMT : 0 ≤ tw ∧ tw ≤ 3) (hY : mSync S A1 A2 A3 A4 A5 A6 A7) {o : Nat} {gl : Nat → Int64} {H : Heap} {locs : List Loc} {cells slots : Nat} (hcs : cells + 7 ≤ 5000) (hss : slots + 82 ≤ 50000) (hP : va_P D vwCl ((va_pl Lc f ++ [(o, .inl (cL, 1, .inr (.inl gl)))]) ++ va_pl Lm fm) H) (hD : va_D (fun q : Nat => s.heap.size ≤ q) ((va_pl Lc f ++ [(o, .inl (cL, 1, .inr (.inl gl)))]) ++ va_pl Lm fm)) (hS : va_S (fun q : Nat => s.heap.size ≤ q) s.heap H locs) {i : Nat} (hi : i + 4 ≤ Ln) (hLn : Ln ≤ 2048) {ls : Array Slot} (hl : lv_has ls 7 [(4, .int (zI (i : Int))), (0, .ref b), (1, .ref (gA g 0)), (2, .ref (a 0)), (3, .ref o)]) {Q : State → Prop} (hE : KEnd p l e s m b below meth c cells slots Q D k cL (gA g 0) Lm a o i) : W p l e room_1 s m #[Value.ref b] below meth c H locs cells slots Q (F0 m 532 ls []) := by
  obtain ⟨hx, hb, hrt, hml, hown0, hts0, hXs, hbl, hlocks, hgv⟩ := id C0
  have hown : s.vm.findClass RL = some m.cls := hown0
  have hts : ∀ w ∈ wsL_law, w.before #[Value.ref b] s = true := fun w h => hts0 w (wsL_law_in w h)
  have hbA : ¬ (fun q : Nat => s.heap.size ≤ q) b := Nat.not_le.mpr hbl
  have hK := hC.1
  have hNW := hC.2.1
  have hA : ∀ q : Nat, s.heap.size ≤ q → (fun q : Nat => s.heap.size ≤ q) q := fun _ h => h
  have hAn : ∀ q : Nat, (fun q : Nat => s.heap.size ≤ q) q → s.heap.size ≤ q := fun _ h => h
  have hn0 := hO.1
  have hc0 := hO.2.2.2.1
  obtain ⟨z, hz, e1⟩ := law_num (xs (i + 1))
  refine lv_aload_n hx hb dL_law_532 rfl (lv_at hl 2 rfl) ?_
  refine lv_aload_n hx hb dL_law_533 rfl (lv_at hl 1 rfl) ?_
  refine lv_iload hx hb dL_law_534 (lv_at hl 0 rfl) ?_
  refine zr_const hx hb dL_law_536 ?_
  refine zr_add hx hb dL_law_537 ?_
  refine law_ld hx hb hXs hbl hbA hS (j := i + 1) (by omega) (by omega) hLn e1 dL_law_538 ?_
  refine lv_aload_n hx hb dL_law_539 rfl (lv_at hl 4 rfl) ?_
  refine wr_callw (X := va_pl Lc f ++ [(o, .inl (cL, 1, .inr (.inl gl)))]) (vx_runSX (hh := [(0, 9, 12, 13), (0, 9, 15, 17)]) (As := [.ref (gA g 0), .int (zI z), .ref o]) (rest := []) ⟨hx, hb, hml, hown, hts⟩ (kL_marked l D k cL Lc f g S hR hO o gl z hz hlt s.heap.size H.size) (vx_cwSW 3 hts gL_law_L_marked rfl rfl rfl (by decide +kernel) ⟨Nat.le_of_ble_eq_true rfl, Nat.le_of_ble_eq_true rfl⟩) (xc_preS hC hX (vaP_l hP) hS.1 (vaD_l hD) hS hAn) rfl rfl hl.1 rfl (lv_room (Nat.le_of_ble_eq_true rfl)) dL_law_540 ⟨Nat.le_trans (show _ ≤ 5000 by omega) (Nat.le_of_ble_eq_true rfl), Nat.le_trans (show _ ≤ 50000 by omega) (Nat.le_of_ble_eq_true rfl)⟩) hP hD hS hA (fun r u H locs hu hP hD hS hz9 => ?_)
  obtain ⟨kk, v, S2, L2, F, g2, gl2, rfl, hkk, rfl, hg2, hR2, hO2, hv, hSp⟩ := hu
  refine lv_istore (lv' := [(5, .int (zI kk)), (4, .int (zI (i : Int))), (0, .ref b), (1, .ref (gA g 0)), (2, .ref (a 0)), (3, .ref o)]) hx hb dL_law_543 hl (by decide) rfl (fun ls hl => ?_)
  refine lv_aload_n hx hb dL_law_545 rfl (lv_at hl 4 rfl) ?_
  refine lv_aload_n hx hb dL_law_546 rfl (lv_at hl 2 rfl) ?_
  refine lv_iload hx hb dL_law_547 (lv_at hl 1 rfl) ?_
  refine zr_const hx hb dL_law_549 ?_
  refine zr_add hx hb dL_law_550 ?_
  refine law_ld hx hb hXs hbl hbA hS (j := i + 1) (by omega) (by omega) hLn e1 dL_law_551 ?_
  have hPm := tw_swapP hP
  have hDm := tw_swapD hD
  refine wr_calli (X := va_pl Lm fm) (va_runV (As := [.int (zI z)]) (rest := []) ⟨hx, hb, hml, hown, hts⟩ (kM_marked l D k Lm fm S hO a tw A1 A2 A3 A4 A5 A6 A7 A8 A9 A10 hM hMT hY z hz kk v S2 hSp s.heap.size H.size) (cwV 1 hts gL_law_X10_marked rfl rfl rfl (by decide +kernel) ⟨Nat.le_of_ble_eq_true rfl, Nat.le_of_ble_eq_true rfl⟩) (pc_preV hC.sub4 (vaP_l hPm) hS.1 (vaD_l hDm) hAn (pl_recv hK (vaP_l hPm) (hM.2.2.2.2.2.2.2.2.2.2.2.1 0 (by decide)) hM.1 (ci := 9) (q := (RX10, TX10, 13)) rfl)) rfl rfl hl.1 rfl (lv_room (Nat.le_of_ble_eq_true rfl)) dL_law_552 ⟨Nat.le_trans (show _ ≤ 5000 by omega) (Nat.le_of_ble_eq_true rfl), Nat.le_trans (show _ ≤ 50000 by omega) (Nat.le_of_ble_eq_true rfl)⟩) hPm hDm hS hA (fun r u H locs hu hPm hDm hS hz9 => ?_)
  obtain ⟨hrv, Fm, B1, B2, B3, B4, B5, B6, B7, B8, B9, B10, rfl, hM2, hY2⟩ := hu
  have hn2 := hO2.1
  have hc2 := hO2.2.2.2.1
  refine lv_istore (lv' := [(6, .int r), (5, .int (zI kk)), (4, .int (zI (i : Int))), (0, .ref b), (1, .ref (gA g 0)), (2, .ref (a 0)), (3, .ref o)]) hx hb dL_law_555 hl (by decide) rfl (fun ls hl => ?_)
  refine lv_aload_n hx hb dL_law_557 rfl (lv_at hl 5 rfl) ?_
  refine vp_callSi (va_Run.run (va_runV (As := []) (rest := []) ⟨hx, hb, hml, hown, hts⟩ (kX10_thrown l D k Lm Fm a kk (sN S2) (sC S2 : Int) B1 B2 B3 B4 B5 B6 B7 B8 B9 B10 hM2 (by omega) (by omega) (by omega)) (cwV 0 hts gL_law_X10_thrown rfl rfl rfl (by decide +kernel) ⟨Nat.le_of_ble_eq_true rfl, Nat.le_of_ble_eq_true rfl⟩) (rc_preV hC.sub4 (vaP_l hPm) (pl_recv hK (vaP_l hPm) (hM2.2.2.2.2.2.2.2.2.2.2.2.1 0 (by decide)) hM2.1 (ci := 9) (q := (RX10, TX10, 13)) rfl)) rfl rfl hl.1 rfl (lv_room (Nat.le_of_ble_eq_true rfl)) dL_law_558 ⟨Nat.le_trans (show _ ≤ 5000 by omega) (Nat.le_of_ble_eq_true rfl), Nat.le_trans (show _ ≤ 50000 by omega) (Nat.le_of_ble_eq_true rfl)⟩)) (fun r9 hr9 => ?_)
  have hr9 : r9 = zI kk := hr9
  subst hr9
  refine lv_iload hx hb dL_law_561 (lv_at hl 1 rfl) ?_
  refine zr_icmp_eq (tgt := 568) hx hb dL_law_563 (by decide) (by omega) (by omega) (fun _ => ?_) (fun c9 => absurd rfl c9)
  refine lv_iload hx hb dL_law_568 (lv_at hl 1 rfl) ?_
  have hend : W p l e room_1 s m #[Value.ref b] below meth c H locs (cells + 7) (slots + 82) Q (F0 m 585 ls []) := by
    refine lv_goto (tgt := 1280) hx hb dL_law_585 (by decide) ?_
    exact hE S2 L2 F g2 Fm kk B1 B2 B3 B4 B5 B6 B7 B8 B9 B10 gl2 H locs _ hR2 hO2 hg2 hM2 hkk hY2 (tw_swapP hPm) (tw_swapD hDm) hS (lv_sub hl [2, 3, 4, 5, 6] rfl)
  refine zr_if_ne (tgt := 585) hx hb dL_law_570 (by decide) (by omega) (fun _ => hend) (fun c0 => ?_)
  refine lv_aload_n hx hb dL_law_573 rfl (lv_at hl 6 rfl) ?_
  refine zr_const hx hb dL_law_574 ?_
  refine va_lald hx hb hK hPm _ 4 (tw_rk (X := va_pl Lm Fm) (tw_rk (X := va_pl L2 F) (i := 0) rfl)) rfl (zI_in (by omega) (by omega)) dL_law_575 ?_
  rw [show (zI 0).toNatClampNeg = 0 by decide]
  refine lv_iload hx hb dL_law_576 (lv_at hl 0 rfl) ?_
  refine lv_i2l (v := r.toInt64) hx hb dL_law_578 rfl ?_
  refine W.lcmp hx hb dL_law_579 ?_
  rw [lg_same (by rw [hv c0, hrv c0])]
  refine zr_if_eq (tgt := 585) hx hb dL_law_580 (by decide) (by omega) (fun _ => hend) (fun c9 => absurd rfl c9)

set_option maxHeartbeats 4000000 in
set_option maxRecDepth 100000 in
theorem lc_pair {p : Program} {l : Launch} {e : Env} {s : State} {m : MethodId} {below : List Frame} {meth : Method} {c : Code} {b Ln : Nat} {xs : Nat → Int32} (C0 : lw_At p s m meth c b Ln xs) (hlt : l.stackTraces = false) {D : va_G} {k : Nat → ClassId} {cL : ClassId} (hC : cK D (TYL k cL) s) (hX : xW s.heap.size s) {Lc : List Nat} {f : Nat → va_E} {g : CG} {S : SA} (hR : cRep k Lc f g S) (hO : aOK S) {Lm : List Nat} {fm : Nat → va_E} {a : Nat → Nat} {tw : Int} {A1 A2 A3 A4 A5 A6 A7 A8 A9 A10 : Nat → Int32} (hM : mRep k Lm fm a tw (sN S) (sC S : Int) A1 A2 A3 A4 A5 A6 A7 A8 A9 A10) (hMT : 0 ≤ tw ∧ tw ≤ 3) (hY : mSync S A1 A2 A3 A4 A5 A6 A7) {o : Nat} {gl : Nat → Int64} {H : Heap} {locs : List Loc} {cells slots : Nat} (hcs : cells + 7 ≤ 5000) (hss : slots + 82 ≤ 50000) (hP : va_P D vwCl ((va_pl Lc f ++ [(o, .inl (cL, 1, .inr (.inl gl)))]) ++ va_pl Lm fm) H) (hD : va_D (fun q : Nat => s.heap.size ≤ q) ((va_pl Lc f ++ [(o, .inl (cL, 1, .inr (.inl gl)))]) ++ va_pl Lm fm)) (hS : va_S (fun q : Nat => s.heap.size ≤ q) s.heap H locs) {i : Nat} (hi : i + 4 ≤ Ln) (hLn : Ln ≤ 2048) {ls : Array Slot} (hl : lv_has ls 7 [(4, .int (zI (i : Int))), (0, .ref b), (1, .ref (gA g 0)), (2, .ref (a 0)), (3, .ref o)]) {Q : State → Prop} (hE : KEnd p l e s m b below meth c cells slots Q D k cL (gA g 0) Lm a o i) : W p l e room_1 s m #[Value.ref b] below meth c H locs cells slots Q (F0 m 588 ls []) := by
  obtain ⟨hx, hb, hrt, hml, hown0, hts0, hXs, hbl, hlocks, hgv⟩ := id C0
  have hown : s.vm.findClass RL = some m.cls := hown0
  have hts : ∀ w ∈ wsL_law, w.before #[Value.ref b] s = true := fun w h => hts0 w (wsL_law_in w h)
  have hbA : ¬ (fun q : Nat => s.heap.size ≤ q) b := Nat.not_le.mpr hbl
  have hK := hC.1
  have hNW := hC.2.1
  have hA : ∀ q : Nat, s.heap.size ≤ q → (fun q : Nat => s.heap.size ≤ q) q := fun _ h => h
  have hAn : ∀ q : Nat, (fun q : Nat => s.heap.size ≤ q) q → s.heap.size ≤ q := fun _ h => h
  have hn0 := hO.1
  have hc0 := hO.2.2.2.1
  obtain ⟨z, hz, e1⟩ := law_num (xs (i + 1))
  obtain ⟨y, hy, e2⟩ := law_num (xs (i + 2))
  obtain ⟨x, hx9, e3⟩ := law_num (xs (i + 3))
  refine lv_aload_n hx hb dL_law_588 rfl (lv_at hl 2 rfl) ?_
  refine lv_aload_n hx hb dL_law_589 rfl (lv_at hl 1 rfl) ?_
  refine lv_iload hx hb dL_law_590 (lv_at hl 0 rfl) ?_
  refine zr_const hx hb dL_law_592 ?_
  refine zr_add hx hb dL_law_593 ?_
  refine law_ld hx hb hXs hbl hbA hS (j := i + 1) (by omega) (by omega) hLn e1 dL_law_594 ?_
  refine lv_aload_n hx hb dL_law_595 rfl (lv_at hl 1 rfl) ?_
  refine lv_iload hx hb dL_law_596 (lv_at hl 0 rfl) ?_
  refine zr_const hx hb dL_law_598 ?_
  refine zr_add hx hb dL_law_599 ?_
  refine law_ld hx hb hXs hbl hbA hS (j := i + 2) (by omega) (by omega) hLn e2 dL_law_600 ?_
  refine lv_aload_n hx hb dL_law_601 rfl (lv_at hl 1 rfl) ?_
  refine lv_iload hx hb dL_law_602 (lv_at hl 0 rfl) ?_
  refine zr_const hx hb dL_law_604 ?_
  refine zr_add hx hb dL_law_605 ?_
  refine law_ld hx hb hXs hbl hbA hS (j := i + 3) (by omega) (by omega) hLn e3 dL_law_606 ?_
  refine lv_aload_n hx hb dL_law_607 rfl (lv_at hl 4 rfl) ?_
  refine wr_callw (X := va_pl Lc f ++ [(o, .inl (cL, 1, .inr (.inl gl)))]) (vx_runSX (hh := [(0, 12, 15, 13), (0, 12, 19, 15), (0, 12, 23, 17)]) (As := [.ref (gA g 0), .int (zI z), .int (zI y), .int (zI x), .ref o]) (rest := []) ⟨hx, hb, hml, hown, hts⟩ (kL_pair l D k cL Lc f g S hR hO o gl y hy x hx9 z hz hlt s.heap.size H.size) (vx_cwSW 5 hts gL_law_L_pair rfl rfl rfl (by decide +kernel) ⟨Nat.le_of_ble_eq_true rfl, Nat.le_of_ble_eq_true rfl⟩) (xc_preS hC hX (vaP_l hP) hS.1 (vaD_l hD) hS hAn) rfl rfl hl.1 rfl (lv_room (Nat.le_of_ble_eq_true rfl)) dL_law_608 ⟨Nat.le_trans (show _ ≤ 5000 by omega) (Nat.le_of_ble_eq_true rfl), Nat.le_trans (show _ ≤ 50000 by omega) (Nat.le_of_ble_eq_true rfl)⟩) hP hD hS hA (fun r u H locs hu hP hD hS hz9 => ?_)
  obtain ⟨kk, v, S2, L2, F, g2, gl2, rfl, hkk, rfl, hg2, hR2, hO2, hv, hSp⟩ := hu
  refine lv_istore (lv' := [(5, .int (zI kk)), (4, .int (zI (i : Int))), (0, .ref b), (1, .ref (gA g 0)), (2, .ref (a 0)), (3, .ref o)]) hx hb dL_law_611 hl (by decide) rfl (fun ls hl => ?_)
  refine lv_aload_n hx hb dL_law_613 rfl (lv_at hl 4 rfl) ?_
  refine lv_aload_n hx hb dL_law_614 rfl (lv_at hl 2 rfl) ?_
  refine lv_iload hx hb dL_law_615 (lv_at hl 1 rfl) ?_
  refine zr_const hx hb dL_law_617 ?_
  refine zr_add hx hb dL_law_618 ?_
  refine law_ld hx hb hXs hbl hbA hS (j := i + 1) (by omega) (by omega) hLn e1 dL_law_619 ?_
  refine lv_aload_n hx hb dL_law_620 rfl (lv_at hl 2 rfl) ?_
  refine lv_iload hx hb dL_law_621 (lv_at hl 1 rfl) ?_
  refine zr_const hx hb dL_law_623 ?_
  refine zr_add hx hb dL_law_624 ?_
  refine law_ld hx hb hXs hbl hbA hS (j := i + 2) (by omega) (by omega) hLn e2 dL_law_625 ?_
  refine lv_aload_n hx hb dL_law_626 rfl (lv_at hl 2 rfl) ?_
  refine lv_iload hx hb dL_law_627 (lv_at hl 1 rfl) ?_
  refine zr_const hx hb dL_law_629 ?_
  refine zr_add hx hb dL_law_630 ?_
  refine law_ld hx hb hXs hbl hbA hS (j := i + 3) (by omega) (by omega) hLn e3 dL_law_631 ?_
  have hPm := tw_swapP hP
  have hDm := tw_swapD hD
  refine wr_calli (X := va_pl Lm fm) (va_runV (As := [.int (zI z), .int (zI y), .int (zI x)]) (rest := []) ⟨hx, hb, hml, hown, hts⟩ (kM_pair l D k Lm fm S hO a tw A1 A2 A3 A4 A5 A6 A7 A8 A9 A10 hM hMT hY z hz y hy x hx9 kk v S2 hSp s.heap.size H.size) (cwV 3 hts gL_law_X10_pair rfl rfl rfl (by decide +kernel) ⟨Nat.le_of_ble_eq_true rfl, Nat.le_of_ble_eq_true rfl⟩) (pc_preV hC.sub4 (vaP_l hPm) hS.1 (vaD_l hDm) hAn (pl_recv hK (vaP_l hPm) (hM.2.2.2.2.2.2.2.2.2.2.2.1 0 (by decide)) hM.1 (ci := 9) (q := (RX10, TX10, 13)) rfl)) rfl rfl hl.1 rfl (lv_room (Nat.le_of_ble_eq_true rfl)) dL_law_632 ⟨Nat.le_trans (show _ ≤ 5000 by omega) (Nat.le_of_ble_eq_true rfl), Nat.le_trans (show _ ≤ 50000 by omega) (Nat.le_of_ble_eq_true rfl)⟩) hPm hDm hS hA (fun r u H locs hu hPm hDm hS hz9 => ?_)
  obtain ⟨hrv, Fm, B1, B2, B3, B4, B5, B6, B7, B8, B9, B10, rfl, hM2, hY2⟩ := hu
  have hn2 := hO2.1
  have hc2 := hO2.2.2.2.1
  refine lv_istore (lv' := [(6, .int r), (5, .int (zI kk)), (4, .int (zI (i : Int))), (0, .ref b), (1, .ref (gA g 0)), (2, .ref (a 0)), (3, .ref o)]) hx hb dL_law_635 hl (by decide) rfl (fun ls hl => ?_)
  refine lv_aload_n hx hb dL_law_637 rfl (lv_at hl 5 rfl) ?_
  refine vp_callSi (va_Run.run (va_runV (As := []) (rest := []) ⟨hx, hb, hml, hown, hts⟩ (kX10_thrown l D k Lm Fm a kk (sN S2) (sC S2 : Int) B1 B2 B3 B4 B5 B6 B7 B8 B9 B10 hM2 (by omega) (by omega) (by omega)) (cwV 0 hts gL_law_X10_thrown rfl rfl rfl (by decide +kernel) ⟨Nat.le_of_ble_eq_true rfl, Nat.le_of_ble_eq_true rfl⟩) (rc_preV hC.sub4 (vaP_l hPm) (pl_recv hK (vaP_l hPm) (hM2.2.2.2.2.2.2.2.2.2.2.2.1 0 (by decide)) hM2.1 (ci := 9) (q := (RX10, TX10, 13)) rfl)) rfl rfl hl.1 rfl (lv_room (Nat.le_of_ble_eq_true rfl)) dL_law_638 ⟨Nat.le_trans (show _ ≤ 5000 by omega) (Nat.le_of_ble_eq_true rfl), Nat.le_trans (show _ ≤ 50000 by omega) (Nat.le_of_ble_eq_true rfl)⟩)) (fun r9 hr9 => ?_)
  have hr9 : r9 = zI kk := hr9
  subst hr9
  refine lv_iload hx hb dL_law_641 (lv_at hl 1 rfl) ?_
  refine zr_icmp_eq (tgt := 648) hx hb dL_law_643 (by decide) (by omega) (by omega) (fun _ => ?_) (fun c9 => absurd rfl c9)
  refine lv_iload hx hb dL_law_648 (lv_at hl 1 rfl) ?_
  have hend : W p l e room_1 s m #[Value.ref b] below meth c H locs (cells + 7) (slots + 82) Q (F0 m 665 ls []) := by
    refine lv_goto (tgt := 1280) hx hb dL_law_665 (by decide) ?_
    exact hE S2 L2 F g2 Fm kk B1 B2 B3 B4 B5 B6 B7 B8 B9 B10 gl2 H locs _ hR2 hO2 hg2 hM2 hkk hY2 (tw_swapP hPm) (tw_swapD hDm) hS (lv_sub hl [2, 3, 4, 5, 6] rfl)
  refine zr_if_ne (tgt := 665) hx hb dL_law_650 (by decide) (by omega) (fun _ => hend) (fun c0 => ?_)
  refine lv_aload_n hx hb dL_law_653 rfl (lv_at hl 6 rfl) ?_
  refine zr_const hx hb dL_law_654 ?_
  refine va_lald hx hb hK hPm _ 4 (tw_rk (X := va_pl Lm Fm) (tw_rk (X := va_pl L2 F) (i := 0) rfl)) rfl (zI_in (by omega) (by omega)) dL_law_655 ?_
  rw [show (zI 0).toNatClampNeg = 0 by decide]
  refine lv_iload hx hb dL_law_656 (lv_at hl 0 rfl) ?_
  refine lv_i2l (v := r.toInt64) hx hb dL_law_658 rfl ?_
  refine W.lcmp hx hb dL_law_659 ?_
  rw [lg_same (by rw [hv c0, hrv c0])]
  refine zr_if_eq (tgt := 665) hx hb dL_law_660 (by decide) (by omega) (fun _ => hend) (fun c9 => absurd rfl c9)

set_option maxHeartbeats 4000000 in
set_option maxRecDepth 100000 in
theorem lc_near {p : Program} {l : Launch} {e : Env} {s : State} {m : MethodId} {below : List Frame} {meth : Method} {c : Code} {b Ln : Nat} {xs : Nat → Int32} (C0 : lw_At p s m meth c b Ln xs) (hlt : l.stackTraces = false) {D : va_G} {k : Nat → ClassId} {cL : ClassId} (hC : cK D (TYL k cL) s) (hX : xW s.heap.size s) {Lc : List Nat} {f : Nat → va_E} {g : CG} {S : SA} (hR : cRep k Lc f g S) (hO : aOK S) {Lm : List Nat} {fm : Nat → va_E} {a : Nat → Nat} {tw : Int} {A1 A2 A3 A4 A5 A6 A7 A8 A9 A10 : Nat → Int32} (hM : mRep k Lm fm a tw (sN S) (sC S : Int) A1 A2 A3 A4 A5 A6 A7 A8 A9 A10) (hMT : 0 ≤ tw ∧ tw ≤ 3) (hY : mSync S A1 A2 A3 A4 A5 A6 A7) {o : Nat} {gl : Nat → Int64} {H : Heap} {locs : List Loc} {cells slots : Nat} (hcs : cells + 7 ≤ 5000) (hss : slots + 82 ≤ 50000) (hP : va_P D vwCl ((va_pl Lc f ++ [(o, .inl (cL, 1, .inr (.inl gl)))]) ++ va_pl Lm fm) H) (hD : va_D (fun q : Nat => s.heap.size ≤ q) ((va_pl Lc f ++ [(o, .inl (cL, 1, .inr (.inl gl)))]) ++ va_pl Lm fm)) (hS : va_S (fun q : Nat => s.heap.size ≤ q) s.heap H locs) {i : Nat} (hi : i + 4 ≤ Ln) (hLn : Ln ≤ 2048) {ls : Array Slot} (hl : lv_has ls 7 [(4, .int (zI (i : Int))), (0, .ref b), (1, .ref (gA g 0)), (2, .ref (a 0)), (3, .ref o)]) {Q : State → Prop} (hE : KEnd p l e s m b below meth c cells slots Q D k cL (gA g 0) Lm a o i) : W p l e room_1 s m #[Value.ref b] below meth c H locs cells slots Q (F0 m 668 ls []) := by
  obtain ⟨hx, hb, hrt, hml, hown0, hts0, hXs, hbl, hlocks, hgv⟩ := id C0
  have hown : s.vm.findClass RL = some m.cls := hown0
  have hts : ∀ w ∈ wsL_law, w.before #[Value.ref b] s = true := fun w h => hts0 w (wsL_law_in w h)
  have hbA : ¬ (fun q : Nat => s.heap.size ≤ q) b := Nat.not_le.mpr hbl
  have hK := hC.1
  have hNW := hC.2.1
  have hA : ∀ q : Nat, s.heap.size ≤ q → (fun q : Nat => s.heap.size ≤ q) q := fun _ h => h
  have hAn : ∀ q : Nat, (fun q : Nat => s.heap.size ≤ q) q → s.heap.size ≤ q := fun _ h => h
  have hn0 := hO.1
  have hc0 := hO.2.2.2.1
  obtain ⟨z, hz, e1⟩ := law_num (xs (i + 1))
  obtain ⟨y, hy, e2⟩ := law_num (xs (i + 2))
  obtain ⟨x, hx9, e3⟩ := law_num (xs (i + 3))
  refine lv_aload_n hx hb dL_law_668 rfl (lv_at hl 2 rfl) ?_
  refine lv_aload_n hx hb dL_law_669 rfl (lv_at hl 1 rfl) ?_
  refine lv_iload hx hb dL_law_670 (lv_at hl 0 rfl) ?_
  refine zr_const hx hb dL_law_672 ?_
  refine zr_add hx hb dL_law_673 ?_
  refine law_ld hx hb hXs hbl hbA hS (j := i + 1) (by omega) (by omega) hLn e1 dL_law_674 ?_
  refine lv_aload_n hx hb dL_law_675 rfl (lv_at hl 1 rfl) ?_
  refine lv_iload hx hb dL_law_676 (lv_at hl 0 rfl) ?_
  refine zr_const hx hb dL_law_678 ?_
  refine zr_add hx hb dL_law_679 ?_
  refine law_ld hx hb hXs hbl hbA hS (j := i + 2) (by omega) (by omega) hLn e2 dL_law_680 ?_
  refine lv_aload_n hx hb dL_law_681 rfl (lv_at hl 1 rfl) ?_
  refine lv_iload hx hb dL_law_682 (lv_at hl 0 rfl) ?_
  refine zr_const hx hb dL_law_684 ?_
  refine zr_add hx hb dL_law_685 ?_
  refine law_ld hx hb hXs hbl hbA hS (j := i + 3) (by omega) (by omega) hLn e3 dL_law_686 ?_
  refine lv_aload_n hx hb dL_law_687 rfl (lv_at hl 4 rfl) ?_
  refine wr_callw (X := va_pl Lc f ++ [(o, .inl (cL, 1, .inr (.inl gl)))]) (vx_runSX (hh := [(0, 12, 15, 13), (0, 12, 19, 15), (0, 12, 23, 17)]) (As := [.ref (gA g 0), .int (zI z), .int (zI y), .int (zI x), .ref o]) (rest := []) ⟨hx, hb, hml, hown, hts⟩ (kL_near l D k cL Lc f g S hR hO o gl z hz y hy x hx9 hlt s.heap.size H.size) (vx_cwSW 5 hts gL_law_L_near rfl rfl rfl (by decide +kernel) ⟨Nat.le_of_ble_eq_true rfl, Nat.le_of_ble_eq_true rfl⟩) (xc_preS hC hX (vaP_l hP) hS.1 (vaD_l hD) hS hAn) rfl rfl hl.1 rfl (lv_room (Nat.le_of_ble_eq_true rfl)) dL_law_688 ⟨Nat.le_trans (show _ ≤ 5000 by omega) (Nat.le_of_ble_eq_true rfl), Nat.le_trans (show _ ≤ 50000 by omega) (Nat.le_of_ble_eq_true rfl)⟩) hP hD hS hA (fun r u H locs hu hP hD hS hz9 => ?_)
  obtain ⟨kk, v, S2, L2, F, g2, gl2, rfl, hkk, rfl, hg2, hR2, hO2, hv, hSp⟩ := hu
  refine lv_istore (lv' := [(5, .int (zI kk)), (4, .int (zI (i : Int))), (0, .ref b), (1, .ref (gA g 0)), (2, .ref (a 0)), (3, .ref o)]) hx hb dL_law_691 hl (by decide) rfl (fun ls hl => ?_)
  refine lv_aload_n hx hb dL_law_693 rfl (lv_at hl 4 rfl) ?_
  refine lv_aload_n hx hb dL_law_694 rfl (lv_at hl 2 rfl) ?_
  refine lv_iload hx hb dL_law_695 (lv_at hl 1 rfl) ?_
  refine zr_const hx hb dL_law_697 ?_
  refine zr_add hx hb dL_law_698 ?_
  refine law_ld hx hb hXs hbl hbA hS (j := i + 1) (by omega) (by omega) hLn e1 dL_law_699 ?_
  refine lv_aload_n hx hb dL_law_700 rfl (lv_at hl 2 rfl) ?_
  refine lv_iload hx hb dL_law_701 (lv_at hl 1 rfl) ?_
  refine zr_const hx hb dL_law_703 ?_
  refine zr_add hx hb dL_law_704 ?_
  refine law_ld hx hb hXs hbl hbA hS (j := i + 2) (by omega) (by omega) hLn e2 dL_law_705 ?_
  refine lv_aload_n hx hb dL_law_706 rfl (lv_at hl 2 rfl) ?_
  refine lv_iload hx hb dL_law_707 (lv_at hl 1 rfl) ?_
  refine zr_const hx hb dL_law_709 ?_
  refine zr_add hx hb dL_law_710 ?_
  refine law_ld hx hb hXs hbl hbA hS (j := i + 3) (by omega) (by omega) hLn e3 dL_law_711 ?_
  have hPm := tw_swapP hP
  have hDm := tw_swapD hD
  refine wr_calli (X := va_pl Lm fm) (va_runV (As := [.int (zI z), .int (zI y), .int (zI x)]) (rest := []) ⟨hx, hb, hml, hown, hts⟩ (kM_near l D k Lm fm S hO a tw A1 A2 A3 A4 A5 A6 A7 A8 A9 A10 hM hMT hY z hz y hy x hx9 kk v S2 hSp s.heap.size H.size) (cwV 3 hts gL_law_X10_near rfl rfl rfl (by decide +kernel) ⟨Nat.le_of_ble_eq_true rfl, Nat.le_of_ble_eq_true rfl⟩) (pc_preV hC.sub4 (vaP_l hPm) hS.1 (vaD_l hDm) hAn (pl_recv hK (vaP_l hPm) (hM.2.2.2.2.2.2.2.2.2.2.2.1 0 (by decide)) hM.1 (ci := 9) (q := (RX10, TX10, 13)) rfl)) rfl rfl hl.1 rfl (lv_room (Nat.le_of_ble_eq_true rfl)) dL_law_712 ⟨Nat.le_trans (show _ ≤ 5000 by omega) (Nat.le_of_ble_eq_true rfl), Nat.le_trans (show _ ≤ 50000 by omega) (Nat.le_of_ble_eq_true rfl)⟩) hPm hDm hS hA (fun r u H locs hu hPm hDm hS hz9 => ?_)
  obtain ⟨hrv, Fm, B1, B2, B3, B4, B5, B6, B7, B8, B9, B10, rfl, hM2, hY2⟩ := hu
  have hn2 := hO2.1
  have hc2 := hO2.2.2.2.1
  refine lv_istore (lv' := [(6, .int r), (5, .int (zI kk)), (4, .int (zI (i : Int))), (0, .ref b), (1, .ref (gA g 0)), (2, .ref (a 0)), (3, .ref o)]) hx hb dL_law_715 hl (by decide) rfl (fun ls hl => ?_)
  refine lv_aload_n hx hb dL_law_717 rfl (lv_at hl 5 rfl) ?_
  refine vp_callSi (va_Run.run (va_runV (As := []) (rest := []) ⟨hx, hb, hml, hown, hts⟩ (kX10_thrown l D k Lm Fm a kk (sN S2) (sC S2 : Int) B1 B2 B3 B4 B5 B6 B7 B8 B9 B10 hM2 (by omega) (by omega) (by omega)) (cwV 0 hts gL_law_X10_thrown rfl rfl rfl (by decide +kernel) ⟨Nat.le_of_ble_eq_true rfl, Nat.le_of_ble_eq_true rfl⟩) (rc_preV hC.sub4 (vaP_l hPm) (pl_recv hK (vaP_l hPm) (hM2.2.2.2.2.2.2.2.2.2.2.2.1 0 (by decide)) hM2.1 (ci := 9) (q := (RX10, TX10, 13)) rfl)) rfl rfl hl.1 rfl (lv_room (Nat.le_of_ble_eq_true rfl)) dL_law_718 ⟨Nat.le_trans (show _ ≤ 5000 by omega) (Nat.le_of_ble_eq_true rfl), Nat.le_trans (show _ ≤ 50000 by omega) (Nat.le_of_ble_eq_true rfl)⟩)) (fun r9 hr9 => ?_)
  have hr9 : r9 = zI kk := hr9
  subst hr9
  refine lv_iload hx hb dL_law_721 (lv_at hl 1 rfl) ?_
  refine zr_icmp_eq (tgt := 728) hx hb dL_law_723 (by decide) (by omega) (by omega) (fun _ => ?_) (fun c9 => absurd rfl c9)
  refine lv_iload hx hb dL_law_728 (lv_at hl 1 rfl) ?_
  have hend : W p l e room_1 s m #[Value.ref b] below meth c H locs (cells + 7) (slots + 82) Q (F0 m 745 ls []) := by
    refine lv_goto (tgt := 1280) hx hb dL_law_745 (by decide) ?_
    exact hE S2 L2 F g2 Fm kk B1 B2 B3 B4 B5 B6 B7 B8 B9 B10 gl2 H locs _ hR2 hO2 hg2 hM2 hkk hY2 (tw_swapP hPm) (tw_swapD hDm) hS (lv_sub hl [2, 3, 4, 5, 6] rfl)
  refine zr_if_ne (tgt := 745) hx hb dL_law_730 (by decide) (by omega) (fun _ => hend) (fun c0 => ?_)
  refine lv_aload_n hx hb dL_law_733 rfl (lv_at hl 6 rfl) ?_
  refine zr_const hx hb dL_law_734 ?_
  refine va_lald hx hb hK hPm _ 4 (tw_rk (X := va_pl Lm Fm) (tw_rk (X := va_pl L2 F) (i := 0) rfl)) rfl (zI_in (by omega) (by omega)) dL_law_735 ?_
  rw [show (zI 0).toNatClampNeg = 0 by decide]
  refine lv_iload hx hb dL_law_736 (lv_at hl 0 rfl) ?_
  refine lv_i2l (v := r.toInt64) hx hb dL_law_738 rfl ?_
  refine W.lcmp hx hb dL_law_739 ?_
  rw [lg_same (by rw [hv c0, hrv c0])]
  refine zr_if_eq (tgt := 745) hx hb dL_law_740 (by decide) (by omega) (fun _ => hend) (fun c9 => absurd rfl c9)

set_option maxHeartbeats 4000000 in
set_option maxRecDepth 100000 in
theorem lc_only {p : Program} {l : Launch} {e : Env} {s : State} {m : MethodId} {below : List Frame} {meth : Method} {c : Code} {b Ln : Nat} {xs : Nat → Int32} (C0 : lw_At p s m meth c b Ln xs) (hlt : l.stackTraces = false) {D : va_G} {k : Nat → ClassId} {cL : ClassId} (hC : cK D (TYL k cL) s) (hX : xW s.heap.size s) {Lc : List Nat} {f : Nat → va_E} {g : CG} {S : SA} (hR : cRep k Lc f g S) (hO : aOK S) {Lm : List Nat} {fm : Nat → va_E} {a : Nat → Nat} {tw : Int} {A1 A2 A3 A4 A5 A6 A7 A8 A9 A10 : Nat → Int32} (hM : mRep k Lm fm a tw (sN S) (sC S : Int) A1 A2 A3 A4 A5 A6 A7 A8 A9 A10) (hMT : 0 ≤ tw ∧ tw ≤ 3) (hY : mSync S A1 A2 A3 A4 A5 A6 A7) {o : Nat} {gl : Nat → Int64} {H : Heap} {locs : List Loc} {cells slots : Nat} (hcs : cells + 7 ≤ 5000) (hss : slots + 82 ≤ 50000) (hP : va_P D vwCl ((va_pl Lc f ++ [(o, .inl (cL, 1, .inr (.inl gl)))]) ++ va_pl Lm fm) H) (hD : va_D (fun q : Nat => s.heap.size ≤ q) ((va_pl Lc f ++ [(o, .inl (cL, 1, .inr (.inl gl)))]) ++ va_pl Lm fm)) (hS : va_S (fun q : Nat => s.heap.size ≤ q) s.heap H locs) {i : Nat} (hi : i + 4 ≤ Ln) (hLn : Ln ≤ 2048) {ls : Array Slot} (hl : lv_has ls 7 [(4, .int (zI (i : Int))), (0, .ref b), (1, .ref (gA g 0)), (2, .ref (a 0)), (3, .ref o)]) {Q : State → Prop} (hE : KEnd p l e s m b below meth c cells slots Q D k cL (gA g 0) Lm a o i) : W p l e room_1 s m #[Value.ref b] below meth c H locs cells slots Q (F0 m 748 ls []) := by
  obtain ⟨hx, hb, hrt, hml, hown0, hts0, hXs, hbl, hlocks, hgv⟩ := id C0
  have hown : s.vm.findClass RL = some m.cls := hown0
  have hts : ∀ w ∈ wsL_law, w.before #[Value.ref b] s = true := fun w h => hts0 w (wsL_law_in w h)
  have hbA : ¬ (fun q : Nat => s.heap.size ≤ q) b := Nat.not_le.mpr hbl
  have hK := hC.1
  have hNW := hC.2.1
  have hA : ∀ q : Nat, s.heap.size ≤ q → (fun q : Nat => s.heap.size ≤ q) q := fun _ h => h
  have hAn : ∀ q : Nat, (fun q : Nat => s.heap.size ≤ q) q → s.heap.size ≤ q := fun _ h => h
  have hn0 := hO.1
  have hc0 := hO.2.2.2.1
  obtain ⟨z, hz, e1⟩ := law_num (xs (i + 1))
  obtain ⟨y, hy, e2⟩ := law_num (xs (i + 2))
  refine lv_aload_n hx hb dL_law_748 rfl (lv_at hl 2 rfl) ?_
  refine lv_aload_n hx hb dL_law_749 rfl (lv_at hl 1 rfl) ?_
  refine lv_iload hx hb dL_law_750 (lv_at hl 0 rfl) ?_
  refine zr_const hx hb dL_law_752 ?_
  refine zr_add hx hb dL_law_753 ?_
  refine law_ld hx hb hXs hbl hbA hS (j := i + 1) (by omega) (by omega) hLn e1 dL_law_754 ?_
  refine lv_aload_n hx hb dL_law_755 rfl (lv_at hl 1 rfl) ?_
  refine lv_iload hx hb dL_law_756 (lv_at hl 0 rfl) ?_
  refine zr_const hx hb dL_law_758 ?_
  refine zr_add hx hb dL_law_759 ?_
  refine law_ld hx hb hXs hbl hbA hS (j := i + 2) (by omega) (by omega) hLn e2 dL_law_760 ?_
  refine zr_if_eq (tgt := 768) hx hb dL_law_761 (by decide) (by omega) (fun cy => ?_) (fun cy => ?_)
  · refine zr_const hx hb dL_law_768 ?_
    refine zr_top (y := bI false) (by decide) ?_
    refine lv_aload_n hx hb dL_law_769 rfl (lv_at hl 4 rfl) ?_
    refine wr_callw (X := va_pl Lc f ++ [(o, .inl (cL, 1, .inr (.inl gl)))]) (vx_runSX (hh := [(0, 10, 13, 13), (0, 10, 17, 17)]) (As := [.ref (gA g 0), .int (zI z), .int (bI false), .ref o]) (rest := []) ⟨hx, hb, hml, hown, hts⟩ (kL_only l D k cL Lc f g S hR hO o gl z hz false hlt s.heap.size H.size) (vx_cwSW 4 hts gL_law_L_only rfl rfl rfl (by decide +kernel) ⟨Nat.le_of_ble_eq_true rfl, Nat.le_of_ble_eq_true rfl⟩) (xc_preS hC hX (vaP_l hP) hS.1 (vaD_l hD) hS hAn) rfl rfl hl.1 rfl (lv_room (Nat.le_of_ble_eq_true rfl)) dL_law_770 ⟨Nat.le_trans (show _ ≤ 5000 by omega) (Nat.le_of_ble_eq_true rfl), Nat.le_trans (show _ ≤ 50000 by omega) (Nat.le_of_ble_eq_true rfl)⟩) hP hD hS hA (fun r u H locs hu hP hD hS hz9 => ?_)
    obtain ⟨kk, v, S2, L2, F, g2, gl2, rfl, hkk, rfl, hg2, hR2, hO2, hv, hSp⟩ := hu
    refine lv_istore (lv' := [(5, .int (zI kk)), (4, .int (zI (i : Int))), (0, .ref b), (1, .ref (gA g 0)), (2, .ref (a 0)), (3, .ref o)]) hx hb dL_law_773 hl (by decide) rfl (fun ls hl => ?_)
    refine lv_aload_n hx hb dL_law_775 rfl (lv_at hl 4 rfl) ?_
    refine lv_aload_n hx hb dL_law_776 rfl (lv_at hl 2 rfl) ?_
    refine lv_iload hx hb dL_law_777 (lv_at hl 1 rfl) ?_
    refine zr_const hx hb dL_law_779 ?_
    refine zr_add hx hb dL_law_780 ?_
    refine law_ld hx hb hXs hbl hbA hS (j := i + 1) (by omega) (by omega) hLn e1 dL_law_781 ?_
    refine lv_aload_n hx hb dL_law_782 rfl (lv_at hl 2 rfl) ?_
    refine lv_iload hx hb dL_law_783 (lv_at hl 1 rfl) ?_
    refine zr_const hx hb dL_law_785 ?_
    refine zr_add hx hb dL_law_786 ?_
    refine law_ld hx hb hXs hbl hbA hS (j := i + 2) (by omega) (by omega) hLn e2 dL_law_787 ?_
    refine zr_if_eq (tgt := 795) hx hb dL_law_788 (by decide) (by omega) (fun _ => ?_) (fun c9 => absurd cy c9)
    refine zr_const hx hb dL_law_795 ?_
    refine zr_top (y := bI false) (by decide) ?_
    have hPm := tw_swapP hP
    have hDm := tw_swapD hD
    refine wr_calli (X := va_pl Lm fm) (va_runV (As := [.int (zI z), .int (bI false)]) (rest := []) ⟨hx, hb, hml, hown, hts⟩ (kM_only l D k Lm fm S hO a tw A1 A2 A3 A4 A5 A6 A7 A8 A9 A10 hM hMT hY z hz false kk v S2 hSp s.heap.size H.size) (cwV 2 hts gL_law_X10_only rfl rfl rfl (by decide +kernel) ⟨Nat.le_of_ble_eq_true rfl, Nat.le_of_ble_eq_true rfl⟩) (pc_preV hC.sub4 (vaP_l hPm) hS.1 (vaD_l hDm) hAn (pl_recv hK (vaP_l hPm) (hM.2.2.2.2.2.2.2.2.2.2.2.1 0 (by decide)) hM.1 (ci := 9) (q := (RX10, TX10, 13)) rfl)) rfl rfl hl.1 rfl (lv_room (Nat.le_of_ble_eq_true rfl)) dL_law_796 ⟨Nat.le_trans (show _ ≤ 5000 by omega) (Nat.le_of_ble_eq_true rfl), Nat.le_trans (show _ ≤ 50000 by omega) (Nat.le_of_ble_eq_true rfl)⟩) hPm hDm hS hA (fun r u H locs hu hPm hDm hS hz9 => ?_)
    obtain ⟨hrv, Fm, B1, B2, B3, B4, B5, B6, B7, B8, B9, B10, rfl, hM2, hY2⟩ := hu
    have hn2 := hO2.1
    have hc2 := hO2.2.2.2.1
    refine lv_istore (lv' := [(6, .int r), (5, .int (zI kk)), (4, .int (zI (i : Int))), (0, .ref b), (1, .ref (gA g 0)), (2, .ref (a 0)), (3, .ref o)]) hx hb dL_law_799 hl (by decide) rfl (fun ls hl => ?_)
    refine lv_aload_n hx hb dL_law_801 rfl (lv_at hl 5 rfl) ?_
    refine vp_callSi (va_Run.run (va_runV (As := []) (rest := []) ⟨hx, hb, hml, hown, hts⟩ (kX10_thrown l D k Lm Fm a kk (sN S2) (sC S2 : Int) B1 B2 B3 B4 B5 B6 B7 B8 B9 B10 hM2 (by omega) (by omega) (by omega)) (cwV 0 hts gL_law_X10_thrown rfl rfl rfl (by decide +kernel) ⟨Nat.le_of_ble_eq_true rfl, Nat.le_of_ble_eq_true rfl⟩) (rc_preV hC.sub4 (vaP_l hPm) (pl_recv hK (vaP_l hPm) (hM2.2.2.2.2.2.2.2.2.2.2.2.1 0 (by decide)) hM2.1 (ci := 9) (q := (RX10, TX10, 13)) rfl)) rfl rfl hl.1 rfl (lv_room (Nat.le_of_ble_eq_true rfl)) dL_law_802 ⟨Nat.le_trans (show _ ≤ 5000 by omega) (Nat.le_of_ble_eq_true rfl), Nat.le_trans (show _ ≤ 50000 by omega) (Nat.le_of_ble_eq_true rfl)⟩)) (fun r9 hr9 => ?_)
    have hr9 : r9 = zI kk := hr9
    subst hr9
    refine lv_iload hx hb dL_law_805 (lv_at hl 1 rfl) ?_
    refine zr_icmp_eq (tgt := 812) hx hb dL_law_807 (by decide) (by omega) (by omega) (fun _ => ?_) (fun c9 => absurd rfl c9)
    refine lv_iload hx hb dL_law_812 (lv_at hl 1 rfl) ?_
    have hend : W p l e room_1 s m #[Value.ref b] below meth c H locs (cells + 7) (slots + 82) Q (F0 m 829 ls []) := by
      refine lv_goto (tgt := 1280) hx hb dL_law_829 (by decide) ?_
      exact hE S2 L2 F g2 Fm kk B1 B2 B3 B4 B5 B6 B7 B8 B9 B10 gl2 H locs _ hR2 hO2 hg2 hM2 hkk hY2 (tw_swapP hPm) (tw_swapD hDm) hS (lv_sub hl [2, 3, 4, 5, 6] rfl)
    refine zr_if_ne (tgt := 829) hx hb dL_law_814 (by decide) (by omega) (fun _ => hend) (fun c0 => ?_)
    refine lv_aload_n hx hb dL_law_817 rfl (lv_at hl 6 rfl) ?_
    refine zr_const hx hb dL_law_818 ?_
    refine va_lald hx hb hK hPm _ 4 (tw_rk (X := va_pl Lm Fm) (tw_rk (X := va_pl L2 F) (i := 0) rfl)) rfl (zI_in (by omega) (by omega)) dL_law_819 ?_
    rw [show (zI 0).toNatClampNeg = 0 by decide]
    refine lv_iload hx hb dL_law_820 (lv_at hl 0 rfl) ?_
    refine lv_i2l (v := r.toInt64) hx hb dL_law_822 rfl ?_
    refine W.lcmp hx hb dL_law_823 ?_
    rw [lg_same (by rw [hv c0, hrv c0])]
    refine zr_if_eq (tgt := 829) hx hb dL_law_824 (by decide) (by omega) (fun _ => hend) (fun c9 => absurd rfl c9)
  · refine zr_const hx hb dL_law_764 ?_
    refine lv_goto (tgt := 769) hx hb dL_law_765 (by decide) ?_
    refine zr_top (y := bI true) (by decide) ?_
    refine lv_aload_n hx hb dL_law_769 rfl (lv_at hl 4 rfl) ?_
    refine wr_callw (X := va_pl Lc f ++ [(o, .inl (cL, 1, .inr (.inl gl)))]) (vx_runSX (hh := [(0, 10, 13, 13), (0, 10, 17, 17)]) (As := [.ref (gA g 0), .int (zI z), .int (bI true), .ref o]) (rest := []) ⟨hx, hb, hml, hown, hts⟩ (kL_only l D k cL Lc f g S hR hO o gl z hz true hlt s.heap.size H.size) (vx_cwSW 4 hts gL_law_L_only rfl rfl rfl (by decide +kernel) ⟨Nat.le_of_ble_eq_true rfl, Nat.le_of_ble_eq_true rfl⟩) (xc_preS hC hX (vaP_l hP) hS.1 (vaD_l hD) hS hAn) rfl rfl hl.1 rfl (lv_room (Nat.le_of_ble_eq_true rfl)) dL_law_770 ⟨Nat.le_trans (show _ ≤ 5000 by omega) (Nat.le_of_ble_eq_true rfl), Nat.le_trans (show _ ≤ 50000 by omega) (Nat.le_of_ble_eq_true rfl)⟩) hP hD hS hA (fun r u H locs hu hP hD hS hz9 => ?_)
    obtain ⟨kk, v, S2, L2, F, g2, gl2, rfl, hkk, rfl, hg2, hR2, hO2, hv, hSp⟩ := hu
    refine lv_istore (lv' := [(5, .int (zI kk)), (4, .int (zI (i : Int))), (0, .ref b), (1, .ref (gA g 0)), (2, .ref (a 0)), (3, .ref o)]) hx hb dL_law_773 hl (by decide) rfl (fun ls hl => ?_)
    refine lv_aload_n hx hb dL_law_775 rfl (lv_at hl 4 rfl) ?_
    refine lv_aload_n hx hb dL_law_776 rfl (lv_at hl 2 rfl) ?_
    refine lv_iload hx hb dL_law_777 (lv_at hl 1 rfl) ?_
    refine zr_const hx hb dL_law_779 ?_
    refine zr_add hx hb dL_law_780 ?_
    refine law_ld hx hb hXs hbl hbA hS (j := i + 1) (by omega) (by omega) hLn e1 dL_law_781 ?_
    refine lv_aload_n hx hb dL_law_782 rfl (lv_at hl 2 rfl) ?_
    refine lv_iload hx hb dL_law_783 (lv_at hl 1 rfl) ?_
    refine zr_const hx hb dL_law_785 ?_
    refine zr_add hx hb dL_law_786 ?_
    refine law_ld hx hb hXs hbl hbA hS (j := i + 2) (by omega) (by omega) hLn e2 dL_law_787 ?_
    refine zr_if_eq (tgt := 795) hx hb dL_law_788 (by decide) (by omega) (fun c9 => absurd c9 cy) (fun _ => ?_)
    refine zr_const hx hb dL_law_791 ?_
    refine lv_goto (tgt := 796) hx hb dL_law_792 (by decide) ?_
    refine zr_top (y := bI true) (by decide) ?_
    have hPm := tw_swapP hP
    have hDm := tw_swapD hD
    refine wr_calli (X := va_pl Lm fm) (va_runV (As := [.int (zI z), .int (bI true)]) (rest := []) ⟨hx, hb, hml, hown, hts⟩ (kM_only l D k Lm fm S hO a tw A1 A2 A3 A4 A5 A6 A7 A8 A9 A10 hM hMT hY z hz true kk v S2 hSp s.heap.size H.size) (cwV 2 hts gL_law_X10_only rfl rfl rfl (by decide +kernel) ⟨Nat.le_of_ble_eq_true rfl, Nat.le_of_ble_eq_true rfl⟩) (pc_preV hC.sub4 (vaP_l hPm) hS.1 (vaD_l hDm) hAn (pl_recv hK (vaP_l hPm) (hM.2.2.2.2.2.2.2.2.2.2.2.1 0 (by decide)) hM.1 (ci := 9) (q := (RX10, TX10, 13)) rfl)) rfl rfl hl.1 rfl (lv_room (Nat.le_of_ble_eq_true rfl)) dL_law_796 ⟨Nat.le_trans (show _ ≤ 5000 by omega) (Nat.le_of_ble_eq_true rfl), Nat.le_trans (show _ ≤ 50000 by omega) (Nat.le_of_ble_eq_true rfl)⟩) hPm hDm hS hA (fun r u H locs hu hPm hDm hS hz9 => ?_)
    obtain ⟨hrv, Fm, B1, B2, B3, B4, B5, B6, B7, B8, B9, B10, rfl, hM2, hY2⟩ := hu
    have hn2 := hO2.1
    have hc2 := hO2.2.2.2.1
    refine lv_istore (lv' := [(6, .int r), (5, .int (zI kk)), (4, .int (zI (i : Int))), (0, .ref b), (1, .ref (gA g 0)), (2, .ref (a 0)), (3, .ref o)]) hx hb dL_law_799 hl (by decide) rfl (fun ls hl => ?_)
    refine lv_aload_n hx hb dL_law_801 rfl (lv_at hl 5 rfl) ?_
    refine vp_callSi (va_Run.run (va_runV (As := []) (rest := []) ⟨hx, hb, hml, hown, hts⟩ (kX10_thrown l D k Lm Fm a kk (sN S2) (sC S2 : Int) B1 B2 B3 B4 B5 B6 B7 B8 B9 B10 hM2 (by omega) (by omega) (by omega)) (cwV 0 hts gL_law_X10_thrown rfl rfl rfl (by decide +kernel) ⟨Nat.le_of_ble_eq_true rfl, Nat.le_of_ble_eq_true rfl⟩) (rc_preV hC.sub4 (vaP_l hPm) (pl_recv hK (vaP_l hPm) (hM2.2.2.2.2.2.2.2.2.2.2.2.1 0 (by decide)) hM2.1 (ci := 9) (q := (RX10, TX10, 13)) rfl)) rfl rfl hl.1 rfl (lv_room (Nat.le_of_ble_eq_true rfl)) dL_law_802 ⟨Nat.le_trans (show _ ≤ 5000 by omega) (Nat.le_of_ble_eq_true rfl), Nat.le_trans (show _ ≤ 50000 by omega) (Nat.le_of_ble_eq_true rfl)⟩)) (fun r9 hr9 => ?_)
    have hr9 : r9 = zI kk := hr9
    subst hr9
    refine lv_iload hx hb dL_law_805 (lv_at hl 1 rfl) ?_
    refine zr_icmp_eq (tgt := 812) hx hb dL_law_807 (by decide) (by omega) (by omega) (fun _ => ?_) (fun c9 => absurd rfl c9)
    refine lv_iload hx hb dL_law_812 (lv_at hl 1 rfl) ?_
    have hend : W p l e room_1 s m #[Value.ref b] below meth c H locs (cells + 7) (slots + 82) Q (F0 m 829 ls []) := by
      refine lv_goto (tgt := 1280) hx hb dL_law_829 (by decide) ?_
      exact hE S2 L2 F g2 Fm kk B1 B2 B3 B4 B5 B6 B7 B8 B9 B10 gl2 H locs _ hR2 hO2 hg2 hM2 hkk hY2 (tw_swapP hPm) (tw_swapD hDm) hS (lv_sub hl [2, 3, 4, 5, 6] rfl)
    refine zr_if_ne (tgt := 829) hx hb dL_law_814 (by decide) (by omega) (fun _ => hend) (fun c0 => ?_)
    refine lv_aload_n hx hb dL_law_817 rfl (lv_at hl 6 rfl) ?_
    refine zr_const hx hb dL_law_818 ?_
    refine va_lald hx hb hK hPm _ 4 (tw_rk (X := va_pl Lm Fm) (tw_rk (X := va_pl L2 F) (i := 0) rfl)) rfl (zI_in (by omega) (by omega)) dL_law_819 ?_
    rw [show (zI 0).toNatClampNeg = 0 by decide]
    refine lv_iload hx hb dL_law_820 (lv_at hl 0 rfl) ?_
    refine lv_i2l (v := r.toInt64) hx hb dL_law_822 rfl ?_
    refine W.lcmp hx hb dL_law_823 ?_
    rw [lg_same (by rw [hv c0, hrv c0])]
    refine zr_if_eq (tgt := 829) hx hb dL_law_824 (by decide) (by omega) (fun _ => hend) (fun c9 => absurd rfl c9)

set_option maxHeartbeats 4000000 in
set_option maxRecDepth 100000 in
theorem lc_regions {p : Program} {l : Launch} {e : Env} {s : State} {m : MethodId} {below : List Frame} {meth : Method} {c : Code} {b Ln : Nat} {xs : Nat → Int32} (C0 : lw_At p s m meth c b Ln xs) (hlt : l.stackTraces = false) {D : va_G} {k : Nat → ClassId} {cL : ClassId} (hC : cK D (TYL k cL) s) (hX : xW s.heap.size s) {Lc : List Nat} {f : Nat → va_E} {g : CG} {S : SA} (hR : cRep k Lc f g S) (hO : aOK S) {Lm : List Nat} {fm : Nat → va_E} {a : Nat → Nat} {tw : Int} {A1 A2 A3 A4 A5 A6 A7 A8 A9 A10 : Nat → Int32} (hM : mRep k Lm fm a tw (sN S) (sC S : Int) A1 A2 A3 A4 A5 A6 A7 A8 A9 A10) (hMT : 0 ≤ tw ∧ tw ≤ 3) (hY : mSync S A1 A2 A3 A4 A5 A6 A7) {o : Nat} {gl : Nat → Int64} {H : Heap} {locs : List Loc} {cells slots : Nat} (hcs : cells + 7 ≤ 5000) (hss : slots + 82 ≤ 50000) (hP : va_P D vwCl ((va_pl Lc f ++ [(o, .inl (cL, 1, .inr (.inl gl)))]) ++ va_pl Lm fm) H) (hD : va_D (fun q : Nat => s.heap.size ≤ q) ((va_pl Lc f ++ [(o, .inl (cL, 1, .inr (.inl gl)))]) ++ va_pl Lm fm)) (hS : va_S (fun q : Nat => s.heap.size ≤ q) s.heap H locs) {i : Nat} (hi : i + 4 ≤ Ln) (hLn : Ln ≤ 2048) {ls : Array Slot} (hl : lv_has ls 7 [(4, .int (zI (i : Int))), (0, .ref b), (1, .ref (gA g 0)), (2, .ref (a 0)), (3, .ref o)]) {Q : State → Prop} (hE : KEnd p l e s m b below meth c cells slots Q D k cL (gA g 0) Lm a o i) : W p l e room_1 s m #[Value.ref b] below meth c H locs cells slots Q (F0 m 845 ls []) := by
  obtain ⟨hx, hb, hrt, hml, hown0, hts0, hXs, hbl, hlocks, hgv⟩ := id C0
  have hown : s.vm.findClass RL = some m.cls := hown0
  have hts : ∀ w ∈ wsL_law, w.before #[Value.ref b] s = true := fun w h => hts0 w (wsL_law_in w h)
  have hbA : ¬ (fun q : Nat => s.heap.size ≤ q) b := Nat.not_le.mpr hbl
  have hK := hC.1
  have hNW := hC.2.1
  have hA : ∀ q : Nat, s.heap.size ≤ q → (fun q : Nat => s.heap.size ≤ q) q := fun _ h => h
  have hAn : ∀ q : Nat, (fun q : Nat => s.heap.size ≤ q) q → s.heap.size ≤ q := fun _ h => h
  have hn0 := hO.1
  have hc0 := hO.2.2.2.1
  obtain ⟨z, hz, e1⟩ := law_num (xs (i + 1))
  refine lv_aload_n hx hb dL_law_845 rfl (lv_at hl 2 rfl) ?_
  refine lv_aload_n hx hb dL_law_846 rfl (lv_at hl 1 rfl) ?_
  refine lv_iload hx hb dL_law_847 (lv_at hl 0 rfl) ?_
  refine zr_const hx hb dL_law_849 ?_
  refine zr_add hx hb dL_law_850 ?_
  refine law_ld hx hb hXs hbl hbA hS (j := i + 1) (by omega) (by omega) hLn e1 dL_law_851 ?_
  refine lv_aload_n hx hb dL_law_852 rfl (lv_at hl 4 rfl) ?_
  refine wr_callw (X := va_pl Lc f ++ [(o, .inl (cL, 1, .inr (.inl gl)))]) (vx_runSX (hh := [(0, 9, 12, 13)]) (As := [.ref (gA g 0), .int (zI z), .ref o]) (rest := []) ⟨hx, hb, hml, hown, hts⟩ (kL_regions l D k cL Lc f g S hR hO o gl z hz hlt s.heap.size H.size) (vx_cwSW 3 hts gL_law_L_regions rfl rfl rfl (by decide +kernel) ⟨Nat.le_of_ble_eq_true rfl, Nat.le_of_ble_eq_true rfl⟩) (xc_preS hC hX (vaP_l hP) hS.1 (vaD_l hD) hS hAn) rfl rfl hl.1 rfl (lv_room (Nat.le_of_ble_eq_true rfl)) dL_law_853 ⟨Nat.le_trans (show _ ≤ 5000 by omega) (Nat.le_of_ble_eq_true rfl), Nat.le_trans (show _ ≤ 50000 by omega) (Nat.le_of_ble_eq_true rfl)⟩) hP hD hS hA (fun r u H locs hu hP hD hS hz9 => ?_)
  obtain ⟨kk, v, S2, L2, F, g2, gl2, rfl, hkk, rfl, hg2, hR2, hO2, hv, hSp⟩ := hu
  refine lv_istore (lv' := [(5, .int (zI kk)), (4, .int (zI (i : Int))), (0, .ref b), (1, .ref (gA g 0)), (2, .ref (a 0)), (3, .ref o)]) hx hb dL_law_856 hl (by decide) rfl (fun ls hl => ?_)
  refine lv_aload_n hx hb dL_law_858 rfl (lv_at hl 4 rfl) ?_
  refine lv_aload_n hx hb dL_law_859 rfl (lv_at hl 2 rfl) ?_
  refine lv_iload hx hb dL_law_860 (lv_at hl 1 rfl) ?_
  refine zr_const hx hb dL_law_862 ?_
  refine zr_add hx hb dL_law_863 ?_
  refine law_ld hx hb hXs hbl hbA hS (j := i + 1) (by omega) (by omega) hLn e1 dL_law_864 ?_
  have hPm := tw_swapP hP
  have hDm := tw_swapD hD
  refine wr_calli (X := va_pl Lm fm) (va_runV (As := [.int (zI z)]) (rest := []) ⟨hx, hb, hml, hown, hts⟩ (kM_regions l D k Lm fm S hO a tw A1 A2 A3 A4 A5 A6 A7 A8 A9 A10 hM hMT hY z hz kk v S2 hSp s.heap.size H.size) (cwV 1 hts gL_law_X10_regions rfl rfl rfl (by decide +kernel) ⟨Nat.le_of_ble_eq_true rfl, Nat.le_of_ble_eq_true rfl⟩) (pc_preV hC.sub4 (vaP_l hPm) hS.1 (vaD_l hDm) hAn (pl_recv hK (vaP_l hPm) (hM.2.2.2.2.2.2.2.2.2.2.2.1 0 (by decide)) hM.1 (ci := 9) (q := (RX10, TX10, 13)) rfl)) rfl rfl hl.1 rfl (lv_room (Nat.le_of_ble_eq_true rfl)) dL_law_865 ⟨Nat.le_trans (show _ ≤ 5000 by omega) (Nat.le_of_ble_eq_true rfl), Nat.le_trans (show _ ≤ 50000 by omega) (Nat.le_of_ble_eq_true rfl)⟩) hPm hDm hS hA (fun r u H locs hu hPm hDm hS hz9 => ?_)
  obtain ⟨hrv, Fm, B1, B2, B3, B4, B5, B6, B7, B8, B9, B10, rfl, hM2, hY2⟩ := hu
  have hn2 := hO2.1
  have hc2 := hO2.2.2.2.1
  refine lv_istore (lv' := [(6, .int r), (5, .int (zI kk)), (4, .int (zI (i : Int))), (0, .ref b), (1, .ref (gA g 0)), (2, .ref (a 0)), (3, .ref o)]) hx hb dL_law_868 hl (by decide) rfl (fun ls hl => ?_)
  refine lv_aload_n hx hb dL_law_870 rfl (lv_at hl 5 rfl) ?_
  refine vp_callSi (va_Run.run (va_runV (As := []) (rest := []) ⟨hx, hb, hml, hown, hts⟩ (kX10_thrown l D k Lm Fm a kk (sN S2) (sC S2 : Int) B1 B2 B3 B4 B5 B6 B7 B8 B9 B10 hM2 (by omega) (by omega) (by omega)) (cwV 0 hts gL_law_X10_thrown rfl rfl rfl (by decide +kernel) ⟨Nat.le_of_ble_eq_true rfl, Nat.le_of_ble_eq_true rfl⟩) (rc_preV hC.sub4 (vaP_l hPm) (pl_recv hK (vaP_l hPm) (hM2.2.2.2.2.2.2.2.2.2.2.2.1 0 (by decide)) hM2.1 (ci := 9) (q := (RX10, TX10, 13)) rfl)) rfl rfl hl.1 rfl (lv_room (Nat.le_of_ble_eq_true rfl)) dL_law_871 ⟨Nat.le_trans (show _ ≤ 5000 by omega) (Nat.le_of_ble_eq_true rfl), Nat.le_trans (show _ ≤ 50000 by omega) (Nat.le_of_ble_eq_true rfl)⟩)) (fun r9 hr9 => ?_)
  have hr9 : r9 = zI kk := hr9
  subst hr9
  refine lv_iload hx hb dL_law_874 (lv_at hl 1 rfl) ?_
  refine zr_icmp_eq (tgt := 881) hx hb dL_law_876 (by decide) (by omega) (by omega) (fun _ => ?_) (fun c9 => absurd rfl c9)
  refine lv_iload hx hb dL_law_881 (lv_at hl 1 rfl) ?_
  have hend : W p l e room_1 s m #[Value.ref b] below meth c H locs (cells + 7) (slots + 82) Q (F0 m 898 ls []) := by
    refine lv_goto (tgt := 1280) hx hb dL_law_898 (by decide) ?_
    exact hE S2 L2 F g2 Fm kk B1 B2 B3 B4 B5 B6 B7 B8 B9 B10 gl2 H locs _ hR2 hO2 hg2 hM2 hkk hY2 (tw_swapP hPm) (tw_swapD hDm) hS (lv_sub hl [2, 3, 4, 5, 6] rfl)
  refine zr_if_ne (tgt := 898) hx hb dL_law_883 (by decide) (by omega) (fun _ => hend) (fun c0 => ?_)
  refine lv_aload_n hx hb dL_law_886 rfl (lv_at hl 6 rfl) ?_
  refine zr_const hx hb dL_law_887 ?_
  refine va_lald hx hb hK hPm _ 4 (tw_rk (X := va_pl Lm Fm) (tw_rk (X := va_pl L2 F) (i := 0) rfl)) rfl (zI_in (by omega) (by omega)) dL_law_888 ?_
  rw [show (zI 0).toNatClampNeg = 0 by decide]
  refine lv_iload hx hb dL_law_889 (lv_at hl 0 rfl) ?_
  refine lv_i2l (v := r.toInt64) hx hb dL_law_891 rfl ?_
  refine W.lcmp hx hb dL_law_892 ?_
  rw [lg_same (by rw [hv c0, hrv c0])]
  refine zr_if_eq (tgt := 898) hx hb dL_law_893 (by decide) (by omega) (fun _ => hend) (fun c9 => absurd rfl c9)

set_option maxHeartbeats 4000000 in
set_option maxRecDepth 100000 in
theorem lc_regionsOneByOne {p : Program} {l : Launch} {e : Env} {s : State} {m : MethodId} {below : List Frame} {meth : Method} {c : Code} {b Ln : Nat} {xs : Nat → Int32} (C0 : lw_At p s m meth c b Ln xs) (hlt : l.stackTraces = false) {D : va_G} {k : Nat → ClassId} {cL : ClassId} (hC : cK D (TYL k cL) s) (hX : xW s.heap.size s) {Lc : List Nat} {f : Nat → va_E} {g : CG} {S : SA} (hR : cRep k Lc f g S) (hO : aOK S) {Lm : List Nat} {fm : Nat → va_E} {a : Nat → Nat} {tw : Int} {A1 A2 A3 A4 A5 A6 A7 A8 A9 A10 : Nat → Int32} (hM : mRep k Lm fm a tw (sN S) (sC S : Int) A1 A2 A3 A4 A5 A6 A7 A8 A9 A10) (hMT : 0 ≤ tw ∧ tw ≤ 3) (hY : mSync S A1 A2 A3 A4 A5 A6 A7) {o : Nat} {gl : Nat → Int64} {H : Heap} {locs : List Loc} {cells slots : Nat} (hcs : cells + 7 ≤ 5000) (hss : slots + 82 ≤ 50000) (hP : va_P D vwCl ((va_pl Lc f ++ [(o, .inl (cL, 1, .inr (.inl gl)))]) ++ va_pl Lm fm) H) (hD : va_D (fun q : Nat => s.heap.size ≤ q) ((va_pl Lc f ++ [(o, .inl (cL, 1, .inr (.inl gl)))]) ++ va_pl Lm fm)) (hS : va_S (fun q : Nat => s.heap.size ≤ q) s.heap H locs) {i : Nat} (hi : i + 4 ≤ Ln) (hLn : Ln ≤ 2048) {ls : Array Slot} (hl : lv_has ls 7 [(4, .int (zI (i : Int))), (0, .ref b), (1, .ref (gA g 0)), (2, .ref (a 0)), (3, .ref o)]) {Q : State → Prop} (hE : KEnd p l e s m b below meth c cells slots Q D k cL (gA g 0) Lm a o i) : W p l e room_1 s m #[Value.ref b] below meth c H locs cells slots Q (F0 m 901 ls []) := by
  obtain ⟨hx, hb, hrt, hml, hown0, hts0, hXs, hbl, hlocks, hgv⟩ := id C0
  have hown : s.vm.findClass RL = some m.cls := hown0
  have hts : ∀ w ∈ wsL_law, w.before #[Value.ref b] s = true := fun w h => hts0 w (wsL_law_in w h)
  have hbA : ¬ (fun q : Nat => s.heap.size ≤ q) b := Nat.not_le.mpr hbl
  have hK := hC.1
  have hNW := hC.2.1
  have hA : ∀ q : Nat, s.heap.size ≤ q → (fun q : Nat => s.heap.size ≤ q) q := fun _ h => h
  have hAn : ∀ q : Nat, (fun q : Nat => s.heap.size ≤ q) q → s.heap.size ≤ q := fun _ h => h
  have hn0 := hO.1
  have hc0 := hO.2.2.2.1
  obtain ⟨z, hz, e1⟩ := law_num (xs (i + 1))
  refine lv_aload_n hx hb dL_law_901 rfl (lv_at hl 2 rfl) ?_
  refine lv_aload_n hx hb dL_law_902 rfl (lv_at hl 1 rfl) ?_
  refine lv_iload hx hb dL_law_903 (lv_at hl 0 rfl) ?_
  refine zr_const hx hb dL_law_905 ?_
  refine zr_add hx hb dL_law_906 ?_
  refine law_ld hx hb hXs hbl hbA hS (j := i + 1) (by omega) (by omega) hLn e1 dL_law_907 ?_
  refine lv_aload_n hx hb dL_law_908 rfl (lv_at hl 4 rfl) ?_
  refine wr_callw (X := va_pl Lc f ++ [(o, .inl (cL, 1, .inr (.inl gl)))]) (vx_runSX (hh := [(0, 9, 12, 13)]) (As := [.ref (gA g 0), .int (zI z), .ref o]) (rest := []) ⟨hx, hb, hml, hown, hts⟩ (kL_regionsOneByOne l D k cL Lc f g S hR hO o gl z hz hlt s.heap.size H.size) (vx_cwSW 3 hts gL_law_L_regionsOneByOne rfl rfl rfl (by decide +kernel) ⟨Nat.le_of_ble_eq_true rfl, Nat.le_of_ble_eq_true rfl⟩) (xc_preS hC hX (vaP_l hP) hS.1 (vaD_l hD) hS hAn) rfl rfl hl.1 rfl (lv_room (Nat.le_of_ble_eq_true rfl)) dL_law_909 ⟨Nat.le_trans (show _ ≤ 5000 by omega) (Nat.le_of_ble_eq_true rfl), Nat.le_trans (show _ ≤ 50000 by omega) (Nat.le_of_ble_eq_true rfl)⟩) hP hD hS hA (fun r u H locs hu hP hD hS hz9 => ?_)
  obtain ⟨kk, v, S2, L2, F, g2, gl2, rfl, hkk, rfl, hg2, hR2, hO2, hv, hSp⟩ := hu
  refine lv_istore (lv' := [(5, .int (zI kk)), (4, .int (zI (i : Int))), (0, .ref b), (1, .ref (gA g 0)), (2, .ref (a 0)), (3, .ref o)]) hx hb dL_law_912 hl (by decide) rfl (fun ls hl => ?_)
  refine lv_aload_n hx hb dL_law_914 rfl (lv_at hl 4 rfl) ?_
  refine lv_aload_n hx hb dL_law_915 rfl (lv_at hl 2 rfl) ?_
  refine lv_iload hx hb dL_law_916 (lv_at hl 1 rfl) ?_
  refine zr_const hx hb dL_law_918 ?_
  refine zr_add hx hb dL_law_919 ?_
  refine law_ld hx hb hXs hbl hbA hS (j := i + 1) (by omega) (by omega) hLn e1 dL_law_920 ?_
  have hPm := tw_swapP hP
  have hDm := tw_swapD hD
  refine wr_calli (X := va_pl Lm fm) (va_runV (As := [.int (zI z)]) (rest := []) ⟨hx, hb, hml, hown, hts⟩ (kM_regionsOneByOne l D k Lm fm S hO a tw A1 A2 A3 A4 A5 A6 A7 A8 A9 A10 hM hMT hY z hz kk v S2 hSp s.heap.size H.size) (cwV 1 hts gL_law_X10_regionsOneByOne rfl rfl rfl (by decide +kernel) ⟨Nat.le_of_ble_eq_true rfl, Nat.le_of_ble_eq_true rfl⟩) (pc_preV hC.sub4 (vaP_l hPm) hS.1 (vaD_l hDm) hAn (pl_recv hK (vaP_l hPm) (hM.2.2.2.2.2.2.2.2.2.2.2.1 0 (by decide)) hM.1 (ci := 9) (q := (RX10, TX10, 13)) rfl)) rfl rfl hl.1 rfl (lv_room (Nat.le_of_ble_eq_true rfl)) dL_law_921 ⟨Nat.le_trans (show _ ≤ 5000 by omega) (Nat.le_of_ble_eq_true rfl), Nat.le_trans (show _ ≤ 50000 by omega) (Nat.le_of_ble_eq_true rfl)⟩) hPm hDm hS hA (fun r u H locs hu hPm hDm hS hz9 => ?_)
  obtain ⟨hrv, Fm, B1, B2, B3, B4, B5, B6, B7, B8, B9, B10, rfl, hM2, hY2⟩ := hu
  have hn2 := hO2.1
  have hc2 := hO2.2.2.2.1
  refine lv_istore (lv' := [(6, .int r), (5, .int (zI kk)), (4, .int (zI (i : Int))), (0, .ref b), (1, .ref (gA g 0)), (2, .ref (a 0)), (3, .ref o)]) hx hb dL_law_924 hl (by decide) rfl (fun ls hl => ?_)
  refine lv_aload_n hx hb dL_law_926 rfl (lv_at hl 5 rfl) ?_
  refine vp_callSi (va_Run.run (va_runV (As := []) (rest := []) ⟨hx, hb, hml, hown, hts⟩ (kX10_thrown l D k Lm Fm a kk (sN S2) (sC S2 : Int) B1 B2 B3 B4 B5 B6 B7 B8 B9 B10 hM2 (by omega) (by omega) (by omega)) (cwV 0 hts gL_law_X10_thrown rfl rfl rfl (by decide +kernel) ⟨Nat.le_of_ble_eq_true rfl, Nat.le_of_ble_eq_true rfl⟩) (rc_preV hC.sub4 (vaP_l hPm) (pl_recv hK (vaP_l hPm) (hM2.2.2.2.2.2.2.2.2.2.2.2.1 0 (by decide)) hM2.1 (ci := 9) (q := (RX10, TX10, 13)) rfl)) rfl rfl hl.1 rfl (lv_room (Nat.le_of_ble_eq_true rfl)) dL_law_927 ⟨Nat.le_trans (show _ ≤ 5000 by omega) (Nat.le_of_ble_eq_true rfl), Nat.le_trans (show _ ≤ 50000 by omega) (Nat.le_of_ble_eq_true rfl)⟩)) (fun r9 hr9 => ?_)
  have hr9 : r9 = zI kk := hr9
  subst hr9
  refine lv_iload hx hb dL_law_930 (lv_at hl 1 rfl) ?_
  refine zr_icmp_eq (tgt := 937) hx hb dL_law_932 (by decide) (by omega) (by omega) (fun _ => ?_) (fun c9 => absurd rfl c9)
  refine lv_iload hx hb dL_law_937 (lv_at hl 1 rfl) ?_
  have hend : W p l e room_1 s m #[Value.ref b] below meth c H locs (cells + 7) (slots + 82) Q (F0 m 954 ls []) := by
    refine lv_goto (tgt := 1280) hx hb dL_law_954 (by decide) ?_
    exact hE S2 L2 F g2 Fm kk B1 B2 B3 B4 B5 B6 B7 B8 B9 B10 gl2 H locs _ hR2 hO2 hg2 hM2 hkk hY2 (tw_swapP hPm) (tw_swapD hDm) hS (lv_sub hl [2, 3, 4, 5, 6] rfl)
  refine zr_if_ne (tgt := 954) hx hb dL_law_939 (by decide) (by omega) (fun _ => hend) (fun c0 => ?_)
  refine lv_aload_n hx hb dL_law_942 rfl (lv_at hl 6 rfl) ?_
  refine zr_const hx hb dL_law_943 ?_
  refine va_lald hx hb hK hPm _ 4 (tw_rk (X := va_pl Lm Fm) (tw_rk (X := va_pl L2 F) (i := 0) rfl)) rfl (zI_in (by omega) (by omega)) dL_law_944 ?_
  rw [show (zI 0).toNatClampNeg = 0 by decide]
  refine lv_iload hx hb dL_law_945 (lv_at hl 0 rfl) ?_
  refine lv_i2l (v := r.toInt64) hx hb dL_law_947 rfl ?_
  refine W.lcmp hx hb dL_law_948 ?_
  rw [lg_same (by rw [hv c0, hrv c0])]
  refine zr_if_eq (tgt := 954) hx hb dL_law_949 (by decide) (by omega) (fun _ => hend) (fun c9 => absurd rfl c9)

set_option maxHeartbeats 4000000 in
set_option maxRecDepth 100000 in
theorem lc_covered {p : Program} {l : Launch} {e : Env} {s : State} {m : MethodId} {below : List Frame} {meth : Method} {c : Code} {b Ln : Nat} {xs : Nat → Int32} (C0 : lw_At p s m meth c b Ln xs) (hlt : l.stackTraces = false) {D : va_G} {k : Nat → ClassId} {cL : ClassId} (hC : cK D (TYL k cL) s) (hX : xW s.heap.size s) {Lc : List Nat} {f : Nat → va_E} {g : CG} {S : SA} (hR : cRep k Lc f g S) (hO : aOK S) {Lm : List Nat} {fm : Nat → va_E} {a : Nat → Nat} {tw : Int} {A1 A2 A3 A4 A5 A6 A7 A8 A9 A10 : Nat → Int32} (hM : mRep k Lm fm a tw (sN S) (sC S : Int) A1 A2 A3 A4 A5 A6 A7 A8 A9 A10) (hMT : 0 ≤ tw ∧ tw ≤ 3) (hY : mSync S A1 A2 A3 A4 A5 A6 A7) {o : Nat} {gl : Nat → Int64} {H : Heap} {locs : List Loc} {cells slots : Nat} (hcs : cells + 7 ≤ 5000) (hss : slots + 82 ≤ 50000) (hP : va_P D vwCl ((va_pl Lc f ++ [(o, .inl (cL, 1, .inr (.inl gl)))]) ++ va_pl Lm fm) H) (hD : va_D (fun q : Nat => s.heap.size ≤ q) ((va_pl Lc f ++ [(o, .inl (cL, 1, .inr (.inl gl)))]) ++ va_pl Lm fm)) (hS : va_S (fun q : Nat => s.heap.size ≤ q) s.heap H locs) {i : Nat} (hi : i + 4 ≤ Ln) (hLn : Ln ≤ 2048) {ls : Array Slot} (hl : lv_has ls 7 [(4, .int (zI (i : Int))), (0, .ref b), (1, .ref (gA g 0)), (2, .ref (a 0)), (3, .ref o)]) {Q : State → Prop} (hE : KEnd p l e s m b below meth c cells slots Q D k cL (gA g 0) Lm a o i) : W p l e room_1 s m #[Value.ref b] below meth c H locs cells slots Q (F0 m 1112 ls []) := by
  obtain ⟨hx, hb, hrt, hml, hown0, hts0, hXs, hbl, hlocks, hgv⟩ := id C0
  have hown : s.vm.findClass RL = some m.cls := hown0
  have hts : ∀ w ∈ wsL_law, w.before #[Value.ref b] s = true := fun w h => hts0 w (wsL_law_in w h)
  have hbA : ¬ (fun q : Nat => s.heap.size ≤ q) b := Nat.not_le.mpr hbl
  have hK := hC.1
  have hNW := hC.2.1
  have hA : ∀ q : Nat, s.heap.size ≤ q → (fun q : Nat => s.heap.size ≤ q) q := fun _ h => h
  have hAn : ∀ q : Nat, (fun q : Nat => s.heap.size ≤ q) q → s.heap.size ≤ q := fun _ h => h
  have hn0 := hO.1
  have hc0 := hO.2.2.2.1
  obtain ⟨z, hz, e1⟩ := law_num (xs (i + 1))
  refine lv_aload_n hx hb dL_law_1112 rfl (lv_at hl 2 rfl) ?_
  refine lv_aload_n hx hb dL_law_1113 rfl (lv_at hl 1 rfl) ?_
  refine lv_iload hx hb dL_law_1114 (lv_at hl 0 rfl) ?_
  refine zr_const hx hb dL_law_1116 ?_
  refine zr_add hx hb dL_law_1117 ?_
  refine law_ld hx hb hXs hbl hbA hS (j := i + 1) (by omega) (by omega) hLn e1 dL_law_1118 ?_
  refine lv_aload_n hx hb dL_law_1119 rfl (lv_at hl 4 rfl) ?_
  refine wr_callw (X := va_pl Lc f ++ [(o, .inl (cL, 1, .inr (.inl gl)))]) (vx_runSX (hh := [(0, 9, 12, 13)]) (As := [.ref (gA g 0), .int (zI z), .ref o]) (rest := []) ⟨hx, hb, hml, hown, hts⟩ (kL_covered l D k cL Lc f g S hR hO o gl z hz hlt s.heap.size H.size) (vx_cwSW 3 hts gL_law_L_covered rfl rfl rfl (by decide +kernel) ⟨Nat.le_of_ble_eq_true rfl, Nat.le_of_ble_eq_true rfl⟩) (xc_preS hC hX (vaP_l hP) hS.1 (vaD_l hD) hS hAn) rfl rfl hl.1 rfl (lv_room (Nat.le_of_ble_eq_true rfl)) dL_law_1120 ⟨Nat.le_trans (show _ ≤ 5000 by omega) (Nat.le_of_ble_eq_true rfl), Nat.le_trans (show _ ≤ 50000 by omega) (Nat.le_of_ble_eq_true rfl)⟩) hP hD hS hA (fun r u H locs hu hP hD hS hz9 => ?_)
  obtain ⟨kk, v, S2, L2, F, g2, gl2, rfl, hkk, rfl, hg2, hR2, hO2, hv, hSp⟩ := hu
  refine lv_istore (lv' := [(5, .int (zI kk)), (4, .int (zI (i : Int))), (0, .ref b), (1, .ref (gA g 0)), (2, .ref (a 0)), (3, .ref o)]) hx hb dL_law_1123 hl (by decide) rfl (fun ls hl => ?_)
  refine lv_aload_n hx hb dL_law_1125 rfl (lv_at hl 4 rfl) ?_
  refine lv_aload_n hx hb dL_law_1126 rfl (lv_at hl 2 rfl) ?_
  refine lv_iload hx hb dL_law_1127 (lv_at hl 1 rfl) ?_
  refine zr_const hx hb dL_law_1129 ?_
  refine zr_add hx hb dL_law_1130 ?_
  refine law_ld hx hb hXs hbl hbA hS (j := i + 1) (by omega) (by omega) hLn e1 dL_law_1131 ?_
  have hPm := tw_swapP hP
  have hDm := tw_swapD hD
  refine wr_calli (X := va_pl Lm fm) (va_runV (As := [.int (zI z)]) (rest := []) ⟨hx, hb, hml, hown, hts⟩ (kM_covered l D k Lm fm S hO a tw A1 A2 A3 A4 A5 A6 A7 A8 A9 A10 hM hMT hY z hz kk v S2 hSp s.heap.size H.size) (cwV 1 hts gL_law_X10_covered rfl rfl rfl (by decide +kernel) ⟨Nat.le_of_ble_eq_true rfl, Nat.le_of_ble_eq_true rfl⟩) (pc_preV hC.sub4 (vaP_l hPm) hS.1 (vaD_l hDm) hAn (pl_recv hK (vaP_l hPm) (hM.2.2.2.2.2.2.2.2.2.2.2.1 0 (by decide)) hM.1 (ci := 9) (q := (RX10, TX10, 13)) rfl)) rfl rfl hl.1 rfl (lv_room (Nat.le_of_ble_eq_true rfl)) dL_law_1132 ⟨Nat.le_trans (show _ ≤ 5000 by omega) (Nat.le_of_ble_eq_true rfl), Nat.le_trans (show _ ≤ 50000 by omega) (Nat.le_of_ble_eq_true rfl)⟩) hPm hDm hS hA (fun r u H locs hu hPm hDm hS hz9 => ?_)
  obtain ⟨hrv, Fm, B1, B2, B3, B4, B5, B6, B7, B8, B9, B10, rfl, hM2, hY2⟩ := hu
  have hn2 := hO2.1
  have hc2 := hO2.2.2.2.1
  refine lv_istore (lv' := [(6, .int r), (5, .int (zI kk)), (4, .int (zI (i : Int))), (0, .ref b), (1, .ref (gA g 0)), (2, .ref (a 0)), (3, .ref o)]) hx hb dL_law_1135 hl (by decide) rfl (fun ls hl => ?_)
  refine lv_aload_n hx hb dL_law_1137 rfl (lv_at hl 5 rfl) ?_
  refine vp_callSi (va_Run.run (va_runV (As := []) (rest := []) ⟨hx, hb, hml, hown, hts⟩ (kX10_thrown l D k Lm Fm a kk (sN S2) (sC S2 : Int) B1 B2 B3 B4 B5 B6 B7 B8 B9 B10 hM2 (by omega) (by omega) (by omega)) (cwV 0 hts gL_law_X10_thrown rfl rfl rfl (by decide +kernel) ⟨Nat.le_of_ble_eq_true rfl, Nat.le_of_ble_eq_true rfl⟩) (rc_preV hC.sub4 (vaP_l hPm) (pl_recv hK (vaP_l hPm) (hM2.2.2.2.2.2.2.2.2.2.2.2.1 0 (by decide)) hM2.1 (ci := 9) (q := (RX10, TX10, 13)) rfl)) rfl rfl hl.1 rfl (lv_room (Nat.le_of_ble_eq_true rfl)) dL_law_1138 ⟨Nat.le_trans (show _ ≤ 5000 by omega) (Nat.le_of_ble_eq_true rfl), Nat.le_trans (show _ ≤ 50000 by omega) (Nat.le_of_ble_eq_true rfl)⟩)) (fun r9 hr9 => ?_)
  have hr9 : r9 = zI kk := hr9
  subst hr9
  refine lv_iload hx hb dL_law_1141 (lv_at hl 1 rfl) ?_
  refine zr_icmp_eq (tgt := 1148) hx hb dL_law_1143 (by decide) (by omega) (by omega) (fun _ => ?_) (fun c9 => absurd rfl c9)
  refine lv_iload hx hb dL_law_1148 (lv_at hl 1 rfl) ?_
  have hend : W p l e room_1 s m #[Value.ref b] below meth c H locs (cells + 7) (slots + 82) Q (F0 m 1165 ls []) := by
    refine lv_goto (tgt := 1280) hx hb dL_law_1165 (by decide) ?_
    exact hE S2 L2 F g2 Fm kk B1 B2 B3 B4 B5 B6 B7 B8 B9 B10 gl2 H locs _ hR2 hO2 hg2 hM2 hkk hY2 (tw_swapP hPm) (tw_swapD hDm) hS (lv_sub hl [2, 3, 4, 5, 6] rfl)
  refine zr_if_ne (tgt := 1165) hx hb dL_law_1150 (by decide) (by omega) (fun _ => hend) (fun c0 => ?_)
  refine lv_aload_n hx hb dL_law_1153 rfl (lv_at hl 6 rfl) ?_
  refine zr_const hx hb dL_law_1154 ?_
  refine va_lald hx hb hK hPm _ 4 (tw_rk (X := va_pl Lm Fm) (tw_rk (X := va_pl L2 F) (i := 0) rfl)) rfl (zI_in (by omega) (by omega)) dL_law_1155 ?_
  rw [show (zI 0).toNatClampNeg = 0 by decide]
  refine lv_iload hx hb dL_law_1156 (lv_at hl 0 rfl) ?_
  refine lv_i2l (v := r.toInt64) hx hb dL_law_1158 rfl ?_
  refine W.lcmp hx hb dL_law_1159 ?_
  rw [lg_same (by rw [hv c0, hrv c0])]
  refine zr_if_eq (tgt := 1165) hx hb dL_law_1160 (by decide) (by omega) (fun _ => hend) (fun c9 => absurd rfl c9)

set_option maxHeartbeats 4000000 in
set_option maxRecDepth 100000 in
theorem lc_longest {p : Program} {l : Launch} {e : Env} {s : State} {m : MethodId} {below : List Frame} {meth : Method} {c : Code} {b Ln : Nat} {xs : Nat → Int32} (C0 : lw_At p s m meth c b Ln xs) (hlt : l.stackTraces = false) {D : va_G} {k : Nat → ClassId} {cL : ClassId} (hC : cK D (TYL k cL) s) (hX : xW s.heap.size s) {Lc : List Nat} {f : Nat → va_E} {g : CG} {S : SA} (hR : cRep k Lc f g S) (hO : aOK S) {Lm : List Nat} {fm : Nat → va_E} {a : Nat → Nat} {tw : Int} {A1 A2 A3 A4 A5 A6 A7 A8 A9 A10 : Nat → Int32} (hM : mRep k Lm fm a tw (sN S) (sC S : Int) A1 A2 A3 A4 A5 A6 A7 A8 A9 A10) (hMT : 0 ≤ tw ∧ tw ≤ 3) (hY : mSync S A1 A2 A3 A4 A5 A6 A7) {o : Nat} {gl : Nat → Int64} {H : Heap} {locs : List Loc} {cells slots : Nat} (hcs : cells + 7 ≤ 5000) (hss : slots + 82 ≤ 50000) (hP : va_P D vwCl ((va_pl Lc f ++ [(o, .inl (cL, 1, .inr (.inl gl)))]) ++ va_pl Lm fm) H) (hD : va_D (fun q : Nat => s.heap.size ≤ q) ((va_pl Lc f ++ [(o, .inl (cL, 1, .inr (.inl gl)))]) ++ va_pl Lm fm)) (hS : va_S (fun q : Nat => s.heap.size ≤ q) s.heap H locs) {i : Nat} (hi : i + 4 ≤ Ln) (hLn : Ln ≤ 2048) {ls : Array Slot} (hl : lv_has ls 7 [(4, .int (zI (i : Int))), (0, .ref b), (1, .ref (gA g 0)), (2, .ref (a 0)), (3, .ref o)]) {Q : State → Prop} (hE : KEnd p l e s m b below meth c cells slots Q D k cL (gA g 0) Lm a o i) : W p l e room_1 s m #[Value.ref b] below meth c H locs cells slots Q (F0 m 1168 ls []) := by
  obtain ⟨hx, hb, hrt, hml, hown0, hts0, hXs, hbl, hlocks, hgv⟩ := id C0
  have hown : s.vm.findClass RL = some m.cls := hown0
  have hts : ∀ w ∈ wsL_law, w.before #[Value.ref b] s = true := fun w h => hts0 w (wsL_law_in w h)
  have hbA : ¬ (fun q : Nat => s.heap.size ≤ q) b := Nat.not_le.mpr hbl
  have hK := hC.1
  have hNW := hC.2.1
  have hA : ∀ q : Nat, s.heap.size ≤ q → (fun q : Nat => s.heap.size ≤ q) q := fun _ h => h
  have hAn : ∀ q : Nat, (fun q : Nat => s.heap.size ≤ q) q → s.heap.size ≤ q := fun _ h => h
  have hn0 := hO.1
  have hc0 := hO.2.2.2.1
  obtain ⟨z, hz, e1⟩ := law_num (xs (i + 1))
  refine lv_aload_n hx hb dL_law_1168 rfl (lv_at hl 2 rfl) ?_
  refine lv_aload_n hx hb dL_law_1169 rfl (lv_at hl 1 rfl) ?_
  refine lv_iload hx hb dL_law_1170 (lv_at hl 0 rfl) ?_
  refine zr_const hx hb dL_law_1172 ?_
  refine zr_add hx hb dL_law_1173 ?_
  refine law_ld hx hb hXs hbl hbA hS (j := i + 1) (by omega) (by omega) hLn e1 dL_law_1174 ?_
  refine lv_aload_n hx hb dL_law_1175 rfl (lv_at hl 4 rfl) ?_
  refine wr_callw (X := va_pl Lc f ++ [(o, .inl (cL, 1, .inr (.inl gl)))]) (vx_runSX (hh := [(0, 9, 12, 13)]) (As := [.ref (gA g 0), .int (zI z), .ref o]) (rest := []) ⟨hx, hb, hml, hown, hts⟩ (kL_longest l D k cL Lc f g S hR hO o gl z hz hlt s.heap.size H.size) (vx_cwSW 3 hts gL_law_L_longest rfl rfl rfl (by decide +kernel) ⟨Nat.le_of_ble_eq_true rfl, Nat.le_of_ble_eq_true rfl⟩) (xc_preS hC hX (vaP_l hP) hS.1 (vaD_l hD) hS hAn) rfl rfl hl.1 rfl (lv_room (Nat.le_of_ble_eq_true rfl)) dL_law_1176 ⟨Nat.le_trans (show _ ≤ 5000 by omega) (Nat.le_of_ble_eq_true rfl), Nat.le_trans (show _ ≤ 50000 by omega) (Nat.le_of_ble_eq_true rfl)⟩) hP hD hS hA (fun r u H locs hu hP hD hS hz9 => ?_)
  obtain ⟨kk, v, S2, L2, F, g2, gl2, rfl, hkk, rfl, hg2, hR2, hO2, hv, hSp⟩ := hu
  refine lv_istore (lv' := [(5, .int (zI kk)), (4, .int (zI (i : Int))), (0, .ref b), (1, .ref (gA g 0)), (2, .ref (a 0)), (3, .ref o)]) hx hb dL_law_1179 hl (by decide) rfl (fun ls hl => ?_)
  refine lv_aload_n hx hb dL_law_1181 rfl (lv_at hl 4 rfl) ?_
  refine lv_aload_n hx hb dL_law_1182 rfl (lv_at hl 2 rfl) ?_
  refine lv_iload hx hb dL_law_1183 (lv_at hl 1 rfl) ?_
  refine zr_const hx hb dL_law_1185 ?_
  refine zr_add hx hb dL_law_1186 ?_
  refine law_ld hx hb hXs hbl hbA hS (j := i + 1) (by omega) (by omega) hLn e1 dL_law_1187 ?_
  have hPm := tw_swapP hP
  have hDm := tw_swapD hD
  refine wr_calli (X := va_pl Lm fm) (va_runV (As := [.int (zI z)]) (rest := []) ⟨hx, hb, hml, hown, hts⟩ (kM_longest l D k Lm fm S hO a tw A1 A2 A3 A4 A5 A6 A7 A8 A9 A10 hM hMT hY z hz kk v S2 hSp s.heap.size H.size) (cwV 1 hts gL_law_X10_longest rfl rfl rfl (by decide +kernel) ⟨Nat.le_of_ble_eq_true rfl, Nat.le_of_ble_eq_true rfl⟩) (pc_preV hC.sub4 (vaP_l hPm) hS.1 (vaD_l hDm) hAn (pl_recv hK (vaP_l hPm) (hM.2.2.2.2.2.2.2.2.2.2.2.1 0 (by decide)) hM.1 (ci := 9) (q := (RX10, TX10, 13)) rfl)) rfl rfl hl.1 rfl (lv_room (Nat.le_of_ble_eq_true rfl)) dL_law_1188 ⟨Nat.le_trans (show _ ≤ 5000 by omega) (Nat.le_of_ble_eq_true rfl), Nat.le_trans (show _ ≤ 50000 by omega) (Nat.le_of_ble_eq_true rfl)⟩) hPm hDm hS hA (fun r u H locs hu hPm hDm hS hz9 => ?_)
  obtain ⟨hrv, Fm, B1, B2, B3, B4, B5, B6, B7, B8, B9, B10, rfl, hM2, hY2⟩ := hu
  have hn2 := hO2.1
  have hc2 := hO2.2.2.2.1
  refine lv_istore (lv' := [(6, .int r), (5, .int (zI kk)), (4, .int (zI (i : Int))), (0, .ref b), (1, .ref (gA g 0)), (2, .ref (a 0)), (3, .ref o)]) hx hb dL_law_1191 hl (by decide) rfl (fun ls hl => ?_)
  refine lv_aload_n hx hb dL_law_1193 rfl (lv_at hl 5 rfl) ?_
  refine vp_callSi (va_Run.run (va_runV (As := []) (rest := []) ⟨hx, hb, hml, hown, hts⟩ (kX10_thrown l D k Lm Fm a kk (sN S2) (sC S2 : Int) B1 B2 B3 B4 B5 B6 B7 B8 B9 B10 hM2 (by omega) (by omega) (by omega)) (cwV 0 hts gL_law_X10_thrown rfl rfl rfl (by decide +kernel) ⟨Nat.le_of_ble_eq_true rfl, Nat.le_of_ble_eq_true rfl⟩) (rc_preV hC.sub4 (vaP_l hPm) (pl_recv hK (vaP_l hPm) (hM2.2.2.2.2.2.2.2.2.2.2.2.1 0 (by decide)) hM2.1 (ci := 9) (q := (RX10, TX10, 13)) rfl)) rfl rfl hl.1 rfl (lv_room (Nat.le_of_ble_eq_true rfl)) dL_law_1194 ⟨Nat.le_trans (show _ ≤ 5000 by omega) (Nat.le_of_ble_eq_true rfl), Nat.le_trans (show _ ≤ 50000 by omega) (Nat.le_of_ble_eq_true rfl)⟩)) (fun r9 hr9 => ?_)
  have hr9 : r9 = zI kk := hr9
  subst hr9
  refine lv_iload hx hb dL_law_1197 (lv_at hl 1 rfl) ?_
  refine zr_icmp_eq (tgt := 1204) hx hb dL_law_1199 (by decide) (by omega) (by omega) (fun _ => ?_) (fun c9 => absurd rfl c9)
  refine lv_iload hx hb dL_law_1204 (lv_at hl 1 rfl) ?_
  have hend : W p l e room_1 s m #[Value.ref b] below meth c H locs (cells + 7) (slots + 82) Q (F0 m 1221 ls []) := by
    refine lv_goto (tgt := 1280) hx hb dL_law_1221 (by decide) ?_
    exact hE S2 L2 F g2 Fm kk B1 B2 B3 B4 B5 B6 B7 B8 B9 B10 gl2 H locs _ hR2 hO2 hg2 hM2 hkk hY2 (tw_swapP hPm) (tw_swapD hDm) hS (lv_sub hl [2, 3, 4, 5, 6] rfl)
  refine zr_if_ne (tgt := 1221) hx hb dL_law_1206 (by decide) (by omega) (fun _ => hend) (fun c0 => ?_)
  refine lv_aload_n hx hb dL_law_1209 rfl (lv_at hl 6 rfl) ?_
  refine zr_const hx hb dL_law_1210 ?_
  refine va_lald hx hb hK hPm _ 4 (tw_rk (X := va_pl Lm Fm) (tw_rk (X := va_pl L2 F) (i := 0) rfl)) rfl (zI_in (by omega) (by omega)) dL_law_1211 ?_
  rw [show (zI 0).toNatClampNeg = 0 by decide]
  refine lv_iload hx hb dL_law_1212 (lv_at hl 0 rfl) ?_
  refine lv_i2l (v := r.toInt64) hx hb dL_law_1214 rfl ?_
  refine W.lcmp hx hb dL_law_1215 ?_
  rw [lg_same (by rw [hv c0, hrv c0])]
  refine zr_if_eq (tgt := 1221) hx hb dL_law_1216 (by decide) (by omega) (fun _ => hend) (fun c9 => absurd rfl c9)

set_option maxHeartbeats 4000000 in
set_option maxRecDepth 100000 in
theorem lc_deepest {p : Program} {l : Launch} {e : Env} {s : State} {m : MethodId} {below : List Frame} {meth : Method} {c : Code} {b Ln : Nat} {xs : Nat → Int32} (C0 : lw_At p s m meth c b Ln xs) (hlt : l.stackTraces = false) {D : va_G} {k : Nat → ClassId} {cL : ClassId} (hC : cK D (TYL k cL) s) (hX : xW s.heap.size s) {Lc : List Nat} {f : Nat → va_E} {g : CG} {S : SA} (hR : cRep k Lc f g S) (hO : aOK S) {Lm : List Nat} {fm : Nat → va_E} {a : Nat → Nat} {tw : Int} {A1 A2 A3 A4 A5 A6 A7 A8 A9 A10 : Nat → Int32} (hM : mRep k Lm fm a tw (sN S) (sC S : Int) A1 A2 A3 A4 A5 A6 A7 A8 A9 A10) (hMT : 0 ≤ tw ∧ tw ≤ 3) (hY : mSync S A1 A2 A3 A4 A5 A6 A7) {o : Nat} {gl : Nat → Int64} {H : Heap} {locs : List Loc} {cells slots : Nat} (hcs : cells + 7 ≤ 5000) (hss : slots + 82 ≤ 50000) (hP : va_P D vwCl ((va_pl Lc f ++ [(o, .inl (cL, 1, .inr (.inl gl)))]) ++ va_pl Lm fm) H) (hD : va_D (fun q : Nat => s.heap.size ≤ q) ((va_pl Lc f ++ [(o, .inl (cL, 1, .inr (.inl gl)))]) ++ va_pl Lm fm)) (hS : va_S (fun q : Nat => s.heap.size ≤ q) s.heap H locs) {i : Nat} (hi : i + 4 ≤ Ln) (hLn : Ln ≤ 2048) {ls : Array Slot} (hl : lv_has ls 7 [(4, .int (zI (i : Int))), (0, .ref b), (1, .ref (gA g 0)), (2, .ref (a 0)), (3, .ref o)]) {Q : State → Prop} (hE : KEnd p l e s m b below meth c cells slots Q D k cL (gA g 0) Lm a o i) : W p l e room_1 s m #[Value.ref b] below meth c H locs cells slots Q (F0 m 1224 ls []) := by
  obtain ⟨hx, hb, hrt, hml, hown0, hts0, hXs, hbl, hlocks, hgv⟩ := id C0
  have hown : s.vm.findClass RL = some m.cls := hown0
  have hts : ∀ w ∈ wsL_law, w.before #[Value.ref b] s = true := fun w h => hts0 w (wsL_law_in w h)
  have hbA : ¬ (fun q : Nat => s.heap.size ≤ q) b := Nat.not_le.mpr hbl
  have hK := hC.1
  have hNW := hC.2.1
  have hA : ∀ q : Nat, s.heap.size ≤ q → (fun q : Nat => s.heap.size ≤ q) q := fun _ h => h
  have hAn : ∀ q : Nat, (fun q : Nat => s.heap.size ≤ q) q → s.heap.size ≤ q := fun _ h => h
  have hn0 := hO.1
  have hc0 := hO.2.2.2.1
  obtain ⟨z, hz, e1⟩ := law_num (xs (i + 1))
  refine lv_aload_n hx hb dL_law_1224 rfl (lv_at hl 2 rfl) ?_
  refine lv_aload_n hx hb dL_law_1225 rfl (lv_at hl 1 rfl) ?_
  refine lv_iload hx hb dL_law_1226 (lv_at hl 0 rfl) ?_
  refine zr_const hx hb dL_law_1228 ?_
  refine zr_add hx hb dL_law_1229 ?_
  refine law_ld hx hb hXs hbl hbA hS (j := i + 1) (by omega) (by omega) hLn e1 dL_law_1230 ?_
  refine lv_aload_n hx hb dL_law_1231 rfl (lv_at hl 4 rfl) ?_
  refine wr_callw (X := va_pl Lc f ++ [(o, .inl (cL, 1, .inr (.inl gl)))]) (vx_runSX (hh := [(0, 9, 12, 13)]) (As := [.ref (gA g 0), .int (zI z), .ref o]) (rest := []) ⟨hx, hb, hml, hown, hts⟩ (kL_deepest l D k cL Lc f g S hR hO o gl z hz hlt s.heap.size H.size) (vx_cwSW 3 hts gL_law_L_deepest rfl rfl rfl (by decide +kernel) ⟨Nat.le_of_ble_eq_true rfl, Nat.le_of_ble_eq_true rfl⟩) (xc_preS hC hX (vaP_l hP) hS.1 (vaD_l hD) hS hAn) rfl rfl hl.1 rfl (lv_room (Nat.le_of_ble_eq_true rfl)) dL_law_1232 ⟨Nat.le_trans (show _ ≤ 5000 by omega) (Nat.le_of_ble_eq_true rfl), Nat.le_trans (show _ ≤ 50000 by omega) (Nat.le_of_ble_eq_true rfl)⟩) hP hD hS hA (fun r u H locs hu hP hD hS hz9 => ?_)
  obtain ⟨kk, v, S2, L2, F, g2, gl2, rfl, hkk, rfl, hg2, hR2, hO2, hv, hSp⟩ := hu
  refine lv_istore (lv' := [(5, .int (zI kk)), (4, .int (zI (i : Int))), (0, .ref b), (1, .ref (gA g 0)), (2, .ref (a 0)), (3, .ref o)]) hx hb dL_law_1235 hl (by decide) rfl (fun ls hl => ?_)
  refine lv_aload_n hx hb dL_law_1237 rfl (lv_at hl 4 rfl) ?_
  refine lv_aload_n hx hb dL_law_1238 rfl (lv_at hl 2 rfl) ?_
  refine lv_iload hx hb dL_law_1239 (lv_at hl 1 rfl) ?_
  refine zr_const hx hb dL_law_1241 ?_
  refine zr_add hx hb dL_law_1242 ?_
  refine law_ld hx hb hXs hbl hbA hS (j := i + 1) (by omega) (by omega) hLn e1 dL_law_1243 ?_
  have hPm := tw_swapP hP
  have hDm := tw_swapD hD
  refine wr_calli (X := va_pl Lm fm) (va_runV (As := [.int (zI z)]) (rest := []) ⟨hx, hb, hml, hown, hts⟩ (kM_deepest l D k Lm fm S hO a tw A1 A2 A3 A4 A5 A6 A7 A8 A9 A10 hM hMT hY z hz kk v S2 hSp s.heap.size H.size) (cwV 1 hts gL_law_X10_deepest rfl rfl rfl (by decide +kernel) ⟨Nat.le_of_ble_eq_true rfl, Nat.le_of_ble_eq_true rfl⟩) (pc_preV hC.sub4 (vaP_l hPm) hS.1 (vaD_l hDm) hAn (pl_recv hK (vaP_l hPm) (hM.2.2.2.2.2.2.2.2.2.2.2.1 0 (by decide)) hM.1 (ci := 9) (q := (RX10, TX10, 13)) rfl)) rfl rfl hl.1 rfl (lv_room (Nat.le_of_ble_eq_true rfl)) dL_law_1244 ⟨Nat.le_trans (show _ ≤ 5000 by omega) (Nat.le_of_ble_eq_true rfl), Nat.le_trans (show _ ≤ 50000 by omega) (Nat.le_of_ble_eq_true rfl)⟩) hPm hDm hS hA (fun r u H locs hu hPm hDm hS hz9 => ?_)
  obtain ⟨hrv, Fm, B1, B2, B3, B4, B5, B6, B7, B8, B9, B10, rfl, hM2, hY2⟩ := hu
  have hn2 := hO2.1
  have hc2 := hO2.2.2.2.1
  refine lv_istore (lv' := [(6, .int r), (5, .int (zI kk)), (4, .int (zI (i : Int))), (0, .ref b), (1, .ref (gA g 0)), (2, .ref (a 0)), (3, .ref o)]) hx hb dL_law_1247 hl (by decide) rfl (fun ls hl => ?_)
  refine lv_aload_n hx hb dL_law_1249 rfl (lv_at hl 5 rfl) ?_
  refine vp_callSi (va_Run.run (va_runV (As := []) (rest := []) ⟨hx, hb, hml, hown, hts⟩ (kX10_thrown l D k Lm Fm a kk (sN S2) (sC S2 : Int) B1 B2 B3 B4 B5 B6 B7 B8 B9 B10 hM2 (by omega) (by omega) (by omega)) (cwV 0 hts gL_law_X10_thrown rfl rfl rfl (by decide +kernel) ⟨Nat.le_of_ble_eq_true rfl, Nat.le_of_ble_eq_true rfl⟩) (rc_preV hC.sub4 (vaP_l hPm) (pl_recv hK (vaP_l hPm) (hM2.2.2.2.2.2.2.2.2.2.2.2.1 0 (by decide)) hM2.1 (ci := 9) (q := (RX10, TX10, 13)) rfl)) rfl rfl hl.1 rfl (lv_room (Nat.le_of_ble_eq_true rfl)) dL_law_1250 ⟨Nat.le_trans (show _ ≤ 5000 by omega) (Nat.le_of_ble_eq_true rfl), Nat.le_trans (show _ ≤ 50000 by omega) (Nat.le_of_ble_eq_true rfl)⟩)) (fun r9 hr9 => ?_)
  have hr9 : r9 = zI kk := hr9
  subst hr9
  refine lv_iload hx hb dL_law_1253 (lv_at hl 1 rfl) ?_
  refine zr_icmp_eq (tgt := 1260) hx hb dL_law_1255 (by decide) (by omega) (by omega) (fun _ => ?_) (fun c9 => absurd rfl c9)
  refine lv_iload hx hb dL_law_1260 (lv_at hl 1 rfl) ?_
  have hend : W p l e room_1 s m #[Value.ref b] below meth c H locs (cells + 7) (slots + 82) Q (F0 m 1277 ls []) := by
    refine lv_goto (tgt := 1280) hx hb dL_law_1277 (by decide) ?_
    exact hE S2 L2 F g2 Fm kk B1 B2 B3 B4 B5 B6 B7 B8 B9 B10 gl2 H locs _ hR2 hO2 hg2 hM2 hkk hY2 (tw_swapP hPm) (tw_swapD hDm) hS (lv_sub hl [2, 3, 4, 5, 6] rfl)
  refine zr_if_ne (tgt := 1277) hx hb dL_law_1262 (by decide) (by omega) (fun _ => hend) (fun c0 => ?_)
  refine lv_aload_n hx hb dL_law_1265 rfl (lv_at hl 6 rfl) ?_
  refine zr_const hx hb dL_law_1266 ?_
  refine va_lald hx hb hK hPm _ 4 (tw_rk (X := va_pl Lm Fm) (tw_rk (X := va_pl L2 F) (i := 0) rfl)) rfl (zI_in (by omega) (by omega)) dL_law_1267 ?_
  rw [show (zI 0).toNatClampNeg = 0 by decide]
  refine lv_iload hx hb dL_law_1268 (lv_at hl 0 rfl) ?_
  refine lv_i2l (v := r.toInt64) hx hb dL_law_1270 rfl ?_
  refine W.lcmp hx hb dL_law_1271 ?_
  rw [lg_same (by rw [hv c0, hrv c0])]
  refine zr_if_eq (tgt := 1277) hx hb dL_law_1272 (by decide) (by omega) (fun _ => hend) (fun c9 => absurd rfl c9)

set_option maxHeartbeats 4000000 in
set_option maxRecDepth 100000 in
theorem lc_regionAt {p : Program} {l : Launch} {e : Env} {s : State} {m : MethodId} {below : List Frame} {meth : Method} {c : Code} {b Ln : Nat} {xs : Nat → Int32} (C0 : lw_At p s m meth c b Ln xs) (hlt : l.stackTraces = false) {D : va_G} {k : Nat → ClassId} {cL : ClassId} (hC : cK D (TYL k cL) s) (hX : xW s.heap.size s) {Lc : List Nat} {f : Nat → va_E} {g : CG} {S : SA} (hR : cRep k Lc f g S) (hO : aOK S) {Lm : List Nat} {fm : Nat → va_E} {a : Nat → Nat} {tw : Int} {A1 A2 A3 A4 A5 A6 A7 A8 A9 A10 : Nat → Int32} (hM : mRep k Lm fm a tw (sN S) (sC S : Int) A1 A2 A3 A4 A5 A6 A7 A8 A9 A10) (hMT : 0 ≤ tw ∧ tw ≤ 3) (hY : mSync S A1 A2 A3 A4 A5 A6 A7) {o : Nat} {gl : Nat → Int64} {H : Heap} {locs : List Loc} {cells slots : Nat} (hcs : cells + 7 ≤ 5000) (hss : slots + 82 ≤ 50000) (hP : va_P D vwCl ((va_pl Lc f ++ [(o, .inl (cL, 1, .inr (.inl gl)))]) ++ va_pl Lm fm) H) (hD : va_D (fun q : Nat => s.heap.size ≤ q) ((va_pl Lc f ++ [(o, .inl (cL, 1, .inr (.inl gl)))]) ++ va_pl Lm fm)) (hS : va_S (fun q : Nat => s.heap.size ≤ q) s.heap H locs) {i : Nat} (hi : i + 4 ≤ Ln) (hLn : Ln ≤ 2048) {ls : Array Slot} (hl : lv_has ls 7 [(4, .int (zI (i : Int))), (0, .ref b), (1, .ref (gA g 0)), (2, .ref (a 0)), (3, .ref o)]) {Q : State → Prop} (hE : KEnd p l e s m b below meth c cells slots Q D k cL (gA g 0) Lm a o i) : W p l e room_1 s m #[Value.ref b] below meth c H locs cells slots Q (F0 m 957 ls []) := by
  obtain ⟨hx, hb, hrt, hml, hown0, hts0, hXs, hbl, hlocks, hgv⟩ := id C0
  have hown : s.vm.findClass RL = some m.cls := hown0
  have hts : ∀ w ∈ wsL_law, w.before #[Value.ref b] s = true := fun w h => hts0 w (wsL_law_in w h)
  have hbA : ¬ (fun q : Nat => s.heap.size ≤ q) b := Nat.not_le.mpr hbl
  have hK := hC.1
  have hNW := hC.2.1
  have hA : ∀ q : Nat, s.heap.size ≤ q → (fun q : Nat => s.heap.size ≤ q) q := fun _ h => h
  have hAn : ∀ q : Nat, (fun q : Nat => s.heap.size ≤ q) q → s.heap.size ≤ q := fun _ h => h
  have hn0 := hO.1
  have hc0 := hO.2.2.2.1
  obtain ⟨z, hz, e1⟩ := law_num (xs (i + 1))
  obtain ⟨y, hy, e2⟩ := law_num (xs (i + 2))
  refine lv_aload_n hx hb dL_law_957 rfl (lv_at hl 2 rfl) ?_
  refine lv_aload_n hx hb dL_law_958 rfl (lv_at hl 1 rfl) ?_
  refine lv_iload hx hb dL_law_959 (lv_at hl 0 rfl) ?_
  refine zr_const hx hb dL_law_961 ?_
  refine zr_add hx hb dL_law_962 ?_
  refine law_ld hx hb hXs hbl hbA hS (j := i + 1) (by omega) (by omega) hLn e1 dL_law_963 ?_
  refine lv_aload_n hx hb dL_law_964 rfl (lv_at hl 1 rfl) ?_
  refine lv_iload hx hb dL_law_965 (lv_at hl 0 rfl) ?_
  refine zr_const hx hb dL_law_967 ?_
  refine zr_add hx hb dL_law_968 ?_
  refine law_ld hx hb hXs hbl hbA hS (j := i + 2) (by omega) (by omega) hLn e2 dL_law_969 ?_
  refine lv_aload_n hx hb dL_law_970 rfl (lv_at hl 4 rfl) ?_
  refine wr_callw (X := va_pl Lc f ++ [(o, .inl (cL, 1, .inr (.inl gl)))]) (vx_runSX (hh := [(0, 10, 13, 13)]) (As := [.ref (gA g 0), .int (zI z), .int (zI y), .ref o]) (rest := []) ⟨hx, hb, hml, hown, hts⟩ (kL_regionAt l D k cL Lc f g S hR hO o gl z hz y hy hlt s.heap.size H.size) (vx_cwSW 4 hts gL_law_L_regionAt rfl rfl rfl (by decide +kernel) ⟨Nat.le_of_ble_eq_true rfl, Nat.le_of_ble_eq_true rfl⟩) (xc_preS hC hX (vaP_l hP) hS.1 (vaD_l hD) hS hAn) rfl rfl hl.1 rfl (lv_room (Nat.le_of_ble_eq_true rfl)) dL_law_971 ⟨Nat.le_trans (show _ ≤ 5000 by omega) (Nat.le_of_ble_eq_true rfl), Nat.le_trans (show _ ≤ 50000 by omega) (Nat.le_of_ble_eq_true rfl)⟩) hP hD hS hA (fun r u H locs hu hP hD hS hz9 => ?_)
  obtain ⟨kk, v, S2, L2, F, g2, gl2, rfl, hkk, rfl, hg2, hR2, hO2, hv, hSp⟩ := hu
  refine lv_istore (lv' := [(5, .int (zI kk)), (4, .int (zI (i : Int))), (0, .ref b), (1, .ref (gA g 0)), (2, .ref (a 0)), (3, .ref o)]) hx hb dL_law_974 hl (by decide) rfl (fun ls hl => ?_)
  refine lv_aload_n hx hb dL_law_976 rfl (lv_at hl 4 rfl) ?_
  refine lv_aload_n hx hb dL_law_977 rfl (lv_at hl 2 rfl) ?_
  refine lv_iload hx hb dL_law_978 (lv_at hl 1 rfl) ?_
  refine zr_const hx hb dL_law_980 ?_
  refine zr_add hx hb dL_law_981 ?_
  refine law_ld hx hb hXs hbl hbA hS (j := i + 1) (by omega) (by omega) hLn e1 dL_law_982 ?_
  refine lv_aload_n hx hb dL_law_983 rfl (lv_at hl 2 rfl) ?_
  refine lv_iload hx hb dL_law_984 (lv_at hl 1 rfl) ?_
  refine zr_const hx hb dL_law_986 ?_
  refine zr_add hx hb dL_law_987 ?_
  refine law_ld hx hb hXs hbl hbA hS (j := i + 2) (by omega) (by omega) hLn e2 dL_law_988 ?_
  have hPm := tw_swapP hP
  have hDm := tw_swapD hD
  refine wr_calli (X := va_pl Lm fm) (va_runV (As := [.int (zI z), .int (zI y)]) (rest := []) ⟨hx, hb, hml, hown, hts⟩ (kM_regionAt l D k Lm fm S hO a tw A1 A2 A3 A4 A5 A6 A7 A8 A9 A10 hM hMT hY z hz y hy kk v S2 hSp s.heap.size H.size) (cwV 2 hts gL_law_X10_regionAt rfl rfl rfl (by decide +kernel) ⟨Nat.le_of_ble_eq_true rfl, Nat.le_of_ble_eq_true rfl⟩) (pc_preV hC.sub4 (vaP_l hPm) hS.1 (vaD_l hDm) hAn (pl_recv hK (vaP_l hPm) (hM.2.2.2.2.2.2.2.2.2.2.2.1 0 (by decide)) hM.1 (ci := 9) (q := (RX10, TX10, 13)) rfl)) rfl rfl hl.1 rfl (lv_room (Nat.le_of_ble_eq_true rfl)) dL_law_989 ⟨Nat.le_trans (show _ ≤ 5000 by omega) (Nat.le_of_ble_eq_true rfl), Nat.le_trans (show _ ≤ 50000 by omega) (Nat.le_of_ble_eq_true rfl)⟩) hPm hDm hS hA (fun r u H locs hu hPm hDm hS hz9 => ?_)
  obtain ⟨hrv, Fm, B1, B2, B3, B4, B5, B6, B7, B8, B9, B10, rfl, hM2, hY2⟩ := hu
  have hn2 := hO2.1
  have hc2 := hO2.2.2.2.1
  refine lv_istore (lv' := [(6, .int r), (5, .int (zI kk)), (4, .int (zI (i : Int))), (0, .ref b), (1, .ref (gA g 0)), (2, .ref (a 0)), (3, .ref o)]) hx hb dL_law_992 hl (by decide) rfl (fun ls hl => ?_)
  refine lv_aload_n hx hb dL_law_994 rfl (lv_at hl 5 rfl) ?_
  refine vp_callSi (va_Run.run (va_runV (As := []) (rest := []) ⟨hx, hb, hml, hown, hts⟩ (kX10_thrown l D k Lm Fm a kk (sN S2) (sC S2 : Int) B1 B2 B3 B4 B5 B6 B7 B8 B9 B10 hM2 (by omega) (by omega) (by omega)) (cwV 0 hts gL_law_X10_thrown rfl rfl rfl (by decide +kernel) ⟨Nat.le_of_ble_eq_true rfl, Nat.le_of_ble_eq_true rfl⟩) (rc_preV hC.sub4 (vaP_l hPm) (pl_recv hK (vaP_l hPm) (hM2.2.2.2.2.2.2.2.2.2.2.2.1 0 (by decide)) hM2.1 (ci := 9) (q := (RX10, TX10, 13)) rfl)) rfl rfl hl.1 rfl (lv_room (Nat.le_of_ble_eq_true rfl)) dL_law_995 ⟨Nat.le_trans (show _ ≤ 5000 by omega) (Nat.le_of_ble_eq_true rfl), Nat.le_trans (show _ ≤ 50000 by omega) (Nat.le_of_ble_eq_true rfl)⟩)) (fun r9 hr9 => ?_)
  have hr9 : r9 = zI kk := hr9
  subst hr9
  refine lv_iload hx hb dL_law_998 (lv_at hl 1 rfl) ?_
  refine zr_icmp_eq (tgt := 1005) hx hb dL_law_1000 (by decide) (by omega) (by omega) (fun _ => ?_) (fun c9 => absurd rfl c9)
  refine lv_iload hx hb dL_law_1005 (lv_at hl 1 rfl) ?_
  have hend : W p l e room_1 s m #[Value.ref b] below meth c H locs (cells + 7) (slots + 82) Q (F0 m 1022 ls []) := by
    refine lv_goto (tgt := 1280) hx hb dL_law_1022 (by decide) ?_
    exact hE S2 L2 F g2 Fm kk B1 B2 B3 B4 B5 B6 B7 B8 B9 B10 gl2 H locs _ hR2 hO2 hg2 hM2 hkk hY2 (tw_swapP hPm) (tw_swapD hDm) hS (lv_sub hl [2, 3, 4, 5, 6] rfl)
  refine zr_if_ne (tgt := 1022) hx hb dL_law_1007 (by decide) (by omega) (fun _ => hend) (fun c0 => ?_)
  refine lv_aload_n hx hb dL_law_1010 rfl (lv_at hl 6 rfl) ?_
  refine zr_const hx hb dL_law_1011 ?_
  refine va_lald hx hb hK hPm _ 4 (tw_rk (X := va_pl Lm Fm) (tw_rk (X := va_pl L2 F) (i := 0) rfl)) rfl (zI_in (by omega) (by omega)) dL_law_1012 ?_
  rw [show (zI 0).toNatClampNeg = 0 by decide]
  refine lv_iload hx hb dL_law_1013 (lv_at hl 0 rfl) ?_
  refine lv_i2l (v := r.toInt64) hx hb dL_law_1015 rfl ?_
  refine W.lcmp hx hb dL_law_1016 ?_
  rw [lg_same (by rw [hv c0, hrv c0])]
  refine zr_if_eq (tgt := 1022) hx hb dL_law_1017 (by decide) (by omega) (fun _ => hend) (fun c9 => absurd rfl c9)

set_option maxHeartbeats 4000000 in
set_option maxRecDepth 100000 in
theorem lc_has {p : Program} {l : Launch} {e : Env} {s : State} {m : MethodId} {below : List Frame} {meth : Method} {c : Code} {b Ln : Nat} {xs : Nat → Int32} (C0 : lw_At p s m meth c b Ln xs) (hlt : l.stackTraces = false) {D : va_G} {k : Nat → ClassId} {cL : ClassId} (hC : cK D (TYL k cL) s) (hX : xW s.heap.size s) {Lc : List Nat} {f : Nat → va_E} {g : CG} {S : SA} (hR : cRep k Lc f g S) (hO : aOK S) {Lm : List Nat} {fm : Nat → va_E} {a : Nat → Nat} {tw : Int} {A1 A2 A3 A4 A5 A6 A7 A8 A9 A10 : Nat → Int32} (hM : mRep k Lm fm a tw (sN S) (sC S : Int) A1 A2 A3 A4 A5 A6 A7 A8 A9 A10) (hMT : 0 ≤ tw ∧ tw ≤ 3) (hY : mSync S A1 A2 A3 A4 A5 A6 A7) {o : Nat} {gl : Nat → Int64} {H : Heap} {locs : List Loc} {cells slots : Nat} (hcs : cells + 7 ≤ 5000) (hss : slots + 82 ≤ 50000) (hP : va_P D vwCl ((va_pl Lc f ++ [(o, .inl (cL, 1, .inr (.inl gl)))]) ++ va_pl Lm fm) H) (hD : va_D (fun q : Nat => s.heap.size ≤ q) ((va_pl Lc f ++ [(o, .inl (cL, 1, .inr (.inl gl)))]) ++ va_pl Lm fm)) (hS : va_S (fun q : Nat => s.heap.size ≤ q) s.heap H locs) {i : Nat} (hi : i + 4 ≤ Ln) (hLn : Ln ≤ 2048) {ls : Array Slot} (hl : lv_has ls 7 [(4, .int (zI (i : Int))), (0, .ref b), (1, .ref (gA g 0)), (2, .ref (a 0)), (3, .ref o)]) {Q : State → Prop} (hE : KEnd p l e s m b below meth c cells slots Q D k cL (gA g 0) Lm a o i) : W p l e room_1 s m #[Value.ref b] below meth c H locs cells slots Q (F0 m 1025 ls []) := by
  obtain ⟨hx, hb, hrt, hml, hown0, hts0, hXs, hbl, hlocks, hgv⟩ := id C0
  have hown : s.vm.findClass RL = some m.cls := hown0
  have hts : ∀ w ∈ wsL_law, w.before #[Value.ref b] s = true := fun w h => hts0 w (wsL_law_in w h)
  have hbA : ¬ (fun q : Nat => s.heap.size ≤ q) b := Nat.not_le.mpr hbl
  have hK := hC.1
  have hNW := hC.2.1
  have hA : ∀ q : Nat, s.heap.size ≤ q → (fun q : Nat => s.heap.size ≤ q) q := fun _ h => h
  have hAn : ∀ q : Nat, (fun q : Nat => s.heap.size ≤ q) q → s.heap.size ≤ q := fun _ h => h
  have hn0 := hO.1
  have hc0 := hO.2.2.2.1
  obtain ⟨z, hz, e1⟩ := law_num (xs (i + 1))
  obtain ⟨y, hy, e2⟩ := law_num (xs (i + 2))
  obtain ⟨x, hx9, e3⟩ := law_num (xs (i + 3))
  refine lv_aload_n hx hb dL_law_1025 rfl (lv_at hl 2 rfl) ?_
  refine lv_aload_n hx hb dL_law_1026 rfl (lv_at hl 1 rfl) ?_
  refine lv_iload hx hb dL_law_1027 (lv_at hl 0 rfl) ?_
  refine zr_const hx hb dL_law_1029 ?_
  refine zr_add hx hb dL_law_1030 ?_
  refine law_ld hx hb hXs hbl hbA hS (j := i + 1) (by omega) (by omega) hLn e1 dL_law_1031 ?_
  refine lv_aload_n hx hb dL_law_1032 rfl (lv_at hl 1 rfl) ?_
  refine lv_iload hx hb dL_law_1033 (lv_at hl 0 rfl) ?_
  refine zr_const hx hb dL_law_1035 ?_
  refine zr_add hx hb dL_law_1036 ?_
  refine law_ld hx hb hXs hbl hbA hS (j := i + 2) (by omega) (by omega) hLn e2 dL_law_1037 ?_
  refine lv_aload_n hx hb dL_law_1038 rfl (lv_at hl 1 rfl) ?_
  refine lv_iload hx hb dL_law_1039 (lv_at hl 0 rfl) ?_
  refine zr_const hx hb dL_law_1041 ?_
  refine zr_add hx hb dL_law_1042 ?_
  refine law_ld hx hb hXs hbl hbA hS (j := i + 3) (by omega) (by omega) hLn e3 dL_law_1043 ?_
  refine lv_aload_n hx hb dL_law_1044 rfl (lv_at hl 4 rfl) ?_
  refine wr_callw (X := va_pl Lc f ++ [(o, .inl (cL, 1, .inr (.inl gl)))]) (vx_runSX (hh := [(0, 19, 22, 13)]) (As := [.ref (gA g 0), .int (zI z), .int (zI y), .int (zI x), .ref o]) (rest := []) ⟨hx, hb, hml, hown, hts⟩ (kL_has l D k cL Lc f g S hR hO o gl z hz y hy x hx9 hlt s.heap.size H.size) (vx_cwSW 5 hts gL_law_L_has rfl rfl rfl (by decide +kernel) ⟨Nat.le_of_ble_eq_true rfl, Nat.le_of_ble_eq_true rfl⟩) (xc_preS hC hX (vaP_l hP) hS.1 (vaD_l hD) hS hAn) rfl rfl hl.1 rfl (lv_room (Nat.le_of_ble_eq_true rfl)) dL_law_1045 ⟨Nat.le_trans (show _ ≤ 5000 by omega) (Nat.le_of_ble_eq_true rfl), Nat.le_trans (show _ ≤ 50000 by omega) (Nat.le_of_ble_eq_true rfl)⟩) hP hD hS hA (fun r u H locs hu hP hD hS hz9 => ?_)
  obtain ⟨kk, v, S2, L2, F, g2, gl2, rfl, hkk, rfl, hg2, hR2, hO2, hv, hSp⟩ := hu
  refine lv_istore (lv' := [(5, .int (zI kk)), (4, .int (zI (i : Int))), (0, .ref b), (1, .ref (gA g 0)), (2, .ref (a 0)), (3, .ref o)]) hx hb dL_law_1048 hl (by decide) rfl (fun ls hl => ?_)
  refine lv_aload_n hx hb dL_law_1050 rfl (lv_at hl 4 rfl) ?_
  refine lv_aload_n hx hb dL_law_1051 rfl (lv_at hl 2 rfl) ?_
  refine lv_iload hx hb dL_law_1052 (lv_at hl 1 rfl) ?_
  refine zr_const hx hb dL_law_1054 ?_
  refine zr_add hx hb dL_law_1055 ?_
  refine law_ld hx hb hXs hbl hbA hS (j := i + 1) (by omega) (by omega) hLn e1 dL_law_1056 ?_
  refine lv_aload_n hx hb dL_law_1057 rfl (lv_at hl 2 rfl) ?_
  refine lv_iload hx hb dL_law_1058 (lv_at hl 1 rfl) ?_
  refine zr_const hx hb dL_law_1060 ?_
  refine zr_add hx hb dL_law_1061 ?_
  refine law_ld hx hb hXs hbl hbA hS (j := i + 2) (by omega) (by omega) hLn e2 dL_law_1062 ?_
  refine lv_aload_n hx hb dL_law_1063 rfl (lv_at hl 2 rfl) ?_
  refine lv_iload hx hb dL_law_1064 (lv_at hl 1 rfl) ?_
  refine zr_const hx hb dL_law_1066 ?_
  refine zr_add hx hb dL_law_1067 ?_
  refine law_ld hx hb hXs hbl hbA hS (j := i + 3) (by omega) (by omega) hLn e3 dL_law_1068 ?_
  have hPm := tw_swapP hP
  have hDm := tw_swapD hD
  refine wr_calli (X := va_pl Lm fm) (va_runV (As := [.int (zI z), .int (zI y), .int (zI x)]) (rest := []) ⟨hx, hb, hml, hown, hts⟩ (kM_has l D k Lm fm S hO a tw A1 A2 A3 A4 A5 A6 A7 A8 A9 A10 hM hMT hY z hz y hy x hx9 kk v S2 hSp s.heap.size H.size) (cwV 3 hts gL_law_X10_has rfl rfl rfl (by decide +kernel) ⟨Nat.le_of_ble_eq_true rfl, Nat.le_of_ble_eq_true rfl⟩) (pc_preV hC.sub4 (vaP_l hPm) hS.1 (vaD_l hDm) hAn (pl_recv hK (vaP_l hPm) (hM.2.2.2.2.2.2.2.2.2.2.2.1 0 (by decide)) hM.1 (ci := 9) (q := (RX10, TX10, 13)) rfl)) rfl rfl hl.1 rfl (lv_room (Nat.le_of_ble_eq_true rfl)) dL_law_1069 ⟨Nat.le_trans (show _ ≤ 5000 by omega) (Nat.le_of_ble_eq_true rfl), Nat.le_trans (show _ ≤ 50000 by omega) (Nat.le_of_ble_eq_true rfl)⟩) hPm hDm hS hA (fun r u H locs hu hPm hDm hS hz9 => ?_)
  obtain ⟨hrv, Fm, B1, B2, B3, B4, B5, B6, B7, B8, B9, B10, rfl, hM2, hY2⟩ := hu
  have hn2 := hO2.1
  have hc2 := hO2.2.2.2.1
  have hvb : kk = 0 → ∃ bb, v = bI bb := fun h9 => by rcases hSp with ⟨_, h8, _⟩ | ⟨_, _, _, G, _, h8⟩ <;> first | omega | exact ⟨_, h8⟩
  refine lv_istore (lv' := [(6, .int r), (5, .int (zI kk)), (4, .int (zI (i : Int))), (0, .ref b), (1, .ref (gA g 0)), (2, .ref (a 0)), (3, .ref o)]) hx hb dL_law_1072 hl (by decide) rfl (fun ls hl => ?_)
  refine lv_aload_n hx hb dL_law_1074 rfl (lv_at hl 5 rfl) ?_
  refine vp_callSi (va_Run.run (va_runV (As := []) (rest := []) ⟨hx, hb, hml, hown, hts⟩ (kX10_thrown l D k Lm Fm a kk (sN S2) (sC S2 : Int) B1 B2 B3 B4 B5 B6 B7 B8 B9 B10 hM2 (by omega) (by omega) (by omega)) (cwV 0 hts gL_law_X10_thrown rfl rfl rfl (by decide +kernel) ⟨Nat.le_of_ble_eq_true rfl, Nat.le_of_ble_eq_true rfl⟩) (rc_preV hC.sub4 (vaP_l hPm) (pl_recv hK (vaP_l hPm) (hM2.2.2.2.2.2.2.2.2.2.2.2.1 0 (by decide)) hM2.1 (ci := 9) (q := (RX10, TX10, 13)) rfl)) rfl rfl hl.1 rfl (lv_room (Nat.le_of_ble_eq_true rfl)) dL_law_1075 ⟨Nat.le_trans (show _ ≤ 5000 by omega) (Nat.le_of_ble_eq_true rfl), Nat.le_trans (show _ ≤ 50000 by omega) (Nat.le_of_ble_eq_true rfl)⟩)) (fun r9 hr9 => ?_)
  have hr9 : r9 = zI kk := hr9
  subst hr9
  refine lv_iload hx hb dL_law_1078 (lv_at hl 1 rfl) ?_
  refine zr_icmp_eq (tgt := 1085) hx hb dL_law_1080 (by decide) (by omega) (by omega) (fun _ => ?_) (fun c9 => absurd rfl c9)
  refine lv_iload hx hb dL_law_1085 (lv_at hl 1 rfl) ?_
  have hend : W p l e room_1 s m #[Value.ref b] below meth c H locs (cells + 7) (slots + 82) Q (F0 m 1109 ls []) := by
    refine lv_goto (tgt := 1280) hx hb dL_law_1109 (by decide) ?_
    exact hE S2 L2 F g2 Fm kk B1 B2 B3 B4 B5 B6 B7 B8 B9 B10 gl2 H locs _ hR2 hO2 hg2 hM2 hkk hY2 (tw_swapP hPm) (tw_swapD hDm) hS (lv_sub hl [2, 3, 4, 5, 6] rfl)
  refine zr_if_ne (tgt := 1109) hx hb dL_law_1087 (by decide) (by omega) (fun _ => hend) (fun c0 => ?_)
  refine lv_aload_n hx hb dL_law_1090 rfl (lv_at hl 6 rfl) ?_
  refine zr_const hx hb dL_law_1091 ?_
  refine va_lald hx hb hK hPm _ 4 (tw_rk (X := va_pl Lm Fm) (tw_rk (X := va_pl L2 F) (i := 0) rfl)) rfl (zI_in (by omega) (by omega)) dL_law_1092 ?_
  rw [show (zI 0).toNatClampNeg = 0 by decide]
  refine lv_iload hx hb dL_law_1093 (lv_at hl 0 rfl) ?_
  obtain ⟨bb, hbb⟩ := hvb c0
  rw [hrv c0, hbb]
  refine zr_ifb_eq (tgt := 1102) hx hb dL_law_1095 (by decide) (fun c1 => ?_) (fun c1 => ?_)
  · refine lv_lconst (v := 0) hx hb dL_law_1102 (by decide) ?_
    refine W.lcmp hx hb dL_law_1103 ?_
    rw [lg_same (by rw [hv c0, hbb, c1]; decide)]
    refine zr_if_eq (tgt := 1109) hx hb dL_law_1104 (by decide) (by omega) (fun _ => hend) (fun c9 => absurd rfl c9)
  · refine lv_lconst (v := 1) hx hb dL_law_1098 (by decide) ?_
    refine lv_goto (tgt := 1103) hx hb dL_law_1099 (by decide) ?_
    refine W.lcmp hx hb dL_law_1103 ?_
    rw [lg_same (by rw [hv c0, hbb, c1]; decide)]
    refine zr_if_eq (tgt := 1109) hx hb dL_law_1104 (by decide) (by omega) (fun _ => hend) (fun c9 => absurd rfl c9)
