/-- what is owed at the end of one round of the law's loop -/
def KEnd (p : Program) (l : Launch) (e : Env) (s : State) (m : MethodId) (b : Nat) (below : List Frame) (meth : Method) (c : Code) (cells slots : Nat) (Q : State → Prop) (D : va_G) (k : Nat → ClassId) (x0 y0 t : Nat) : Prop :=
  ∀ (S T : SA) (L : List Nat) (f : Nat → va_E) (g : CG) (L2 : List Nat) (f2 : Nat → va_E) (g2 : CG) (H1 : Heap) (locs1 : List Loc) (ls2 : Array Slot), cRep k L f g S → aOK S → gA g 0 = x0 → cRep k L2 f2 g2 T → aOK T → gA g2 0 = y0 → eqS S T → va_P D vwCl (va_pl L f ++ va_pl L2 f2) H1 → va_D (fun q : Nat => s.heap.size ≤ q) (va_pl L f ++ va_pl L2 f2) → va_S (fun q : Nat => s.heap.size ≤ q) s.heap H1 locs1 → lv_has ls2 7 [(3, .int (zI (t : Int))), (0, .ref b), (1, .ref x0), (2, .ref y0)] →
    W p l e room_1 s m #[Value.ref b] below meth c H1 locs1 (cells + 28) (slots + 328) Q (F0 m 124 ls2 [])
theorem law_ne {n : Int} (h : 0 ≤ n ∧ n ≤ 2000) : ¬ zI n = (-99999 : Int32) := fun h9 => by
  have h8 : zI n = zI (-99999) := h9.trans (by decide)
  have := (zI_eq (by omega) (by omega)).mp h8
  omega

set_option maxHeartbeats 4000000 in
set_option maxRecDepth 100000 in
theorem law_57 {p : Program} {l : Launch} {e : Env} {s : State} {m : MethodId} {below : List Frame} {meth : Method} {c : Code} {b Ln : Nat} {xs : Nat → Int32} (C0 : lw_At p s m meth c b Ln xs) (hlt : l.stackTraces = false) {D : va_G} {k : Nat → ClassId} (hC : cK D (tyL k) s) (hX : xW s.heap.size s) {S T : SA} {L : List Nat} {f : Nat → va_E} {g : CG} {L2 : List Nat} {f2 : Nat → va_E} {g2 : CG} (hR : cRep k L f g S) (hO : aOK S) (hR2 : cRep k L2 f2 g2 T) (hO2 : aOK T) (hE : eqS S T) {H : Heap} {locs : List Loc} {cells slots : Nat} (hcs : cells + 28 ≤ 5000) (hss : slots + 328 ≤ 50000) (hP : va_P D vwCl (va_pl L f ++ va_pl L2 f2) H) (hD : va_D (fun q : Nat => s.heap.size ≤ q) (va_pl L f ++ va_pl L2 f2)) (hS : va_S (fun q : Nat => s.heap.size ≤ q) s.heap H locs) {t : Nat} (ht : t < 70) {v : Int32} {ls : Array Slot} (hl : lv_has ls 7 [(4, .int v), (3, .int (zI (t : Int))), (0, .ref b), (1, .ref (gA g 0)), (2, .ref (gA g2 0))]) {Q : State → Prop} (hK9 : KEnd p l e s m b below meth c cells slots Q D k (gA g 0) (gA g2 0) t) : W p l e room_1 s m #[Value.ref b] below meth c H locs (cells + 14) (slots + 164) Q (F0 m 57 ls []) := by
  obtain ⟨hx, hb, hrt, hml, hown0, hts0, hXs, hbl, hlocks, hgv⟩ := id C0
  have hown : s.vm.findClass RL = some m.cls := hown0
  have hts : ∀ w ∈ wsL_law, w.before #[Value.ref b] s = true := fun w h => hts0 w (wsL_law_in w h)
  have hbA : ¬ (fun q : Nat => s.heap.size ≤ q) b := Nat.not_le.mpr hbl
  have hK := hC.1
  have hNW := hC.2.1
  have hA : ∀ q : Nat, s.heap.size ≤ q → (fun q : Nat => s.heap.size ≤ q) q := fun _ h => h
  have hAn : ∀ q : Nat, (fun q : Nat => s.heap.size ≤ q) q → s.heap.size ≤ q := fun _ h => h
  have hn0 := hO.1
  have hc0 := hO.2.2.2.1
  have e4 := hE.2.2.2.1
  refine lv_aload_n hx hb dL_law_57 rfl (lv_at hl 3 rfl) ?_
  refine lv_aload_n hx hb dL_law_58 rfl (lv_at hl 4 rfl) ?_
  refine vp_callSi (va_Run.run (va_runS (As := [.ref (gA g 0), .ref (gA g2 0)]) (rest := []) ⟨hx, hb, hml, hown, hts⟩ (kL_areAlike l D k L f g S hR hO L2 f2 g2 T hR2 hO2 hE) (va_cwS 2 hts gL_law_L_areAlike rfl rfl rfl (by decide +kernel) ⟨Nat.le_of_ble_eq_true rfl, Nat.le_of_ble_eq_true rfl⟩) (rc_preS hC hP) rfl rfl hl.1 rfl (lv_room (Nat.le_of_ble_eq_true rfl)) dL_law_59 ⟨Nat.le_trans (show _ ≤ 5000 by omega) (Nat.le_of_ble_eq_true rfl), Nat.le_trans (show _ ≤ 50000 by omega) (Nat.le_of_ble_eq_true rfl)⟩)) (fun r hr => ?_)
  have hr : r = bI true := hr
  subst hr
  refine zr_ifb_ne (tgt := 67) hx hb dL_law_62 (by decide) (fun _ => ?_) (fun c9 => absurd c9 (by decide))
  refine lv_aload_n hx hb dL_law_67 rfl (lv_at hl 3 rfl) ?_
  refine vp_callSi (va_Run.run (va_runV (As := []) (rest := []) ⟨hx, hb, hml, hown, hts⟩ (kX9_nodes l D k L f g S hR hO) (cwV 0 hts gL_law_X9_nodes rfl rfl rfl (by decide +kernel) ⟨Nat.le_of_ble_eq_true rfl, Nat.le_of_ble_eq_true rfl⟩) (rc_preV hC (vaP_l hP) (pl_recv hK (vaP_l hP) (hR.2.1 0 (by decide)) hR.1.1 (ci := 8) (q := (RX9, TX9, 3)) rfl)) rfl rfl hl.1 rfl (lv_room (Nat.le_of_ble_eq_true rfl)) dL_law_68 ⟨Nat.le_trans (show _ ≤ 5000 by omega) (Nat.le_of_ble_eq_true rfl), Nat.le_trans (show _ ≤ 50000 by omega) (Nat.le_of_ble_eq_true rfl)⟩)) (fun r hr => ?_)
  have hr : r = zI (sC S : Int) := hr
  subst hr
  refine zr_const hx hb dL_law_71 ?_
  refine zr_sub hx hb dL_law_72 ?_
  refine lv_istore (lv' := [(6, .int (zI ((sC S : Int) - 1))), (4, .int v), (3, .int (zI (t : Int))), (0, .ref b), (1, .ref (gA g 0)), (2, .ref (gA g2 0))]) hx hb dL_law_73 hl (by decide) rfl (fun ls hl => ?_)
  refine lv_iload hx hb dL_law_75 (lv_at hl 0 rfl) ?_
  refine zr_if_lt (tgt := 124) hx hb dL_law_77 (by decide) (by omega) (fun c1 => ?_) (fun c1 => ?_)
  · refine w_widen (k9 := cells + 28) (n9 := slots + 328) (by omega) (by omega) ?_
    exact hK9 S T L f g L2 f2 g2 H locs _ hR hO rfl hR2 hO2 rfl hE hP hD hS (lv_sub hl [2, 3, 4, 5] rfl)
  · obtain ⟨j, hj⟩ : ∃ j : Nat, (sC S : Int) - 1 = (j : Int) := ⟨sC S - 1, by omega⟩
    rw [hj] at hl
    refine lv_iload_n hx hb dL_law_80 rfl (lv_at hl 2 rfl) ?_
    refine zr_bipush hx hb dL_law_81 (by decide) ?_
    refine zr_rem hx hb (by omega) (by omega) dL_law_83 ?_
    refine zr_bipush hx hb dL_law_84 (by decide) ?_
    refine zr_icmp_ne (tgt := 124) hx hb dL_law_86 (by decide) (by omega) (by omega) (fun c2 => ?_) (fun c2 => ?_)
    · refine w_widen (k9 := cells + 28) (n9 := slots + 328) (by omega) (by omega) ?_
      exact hK9 S T L f g L2 f2 g2 H locs _ hR hO rfl hR2 hO2 rfl hE hP hD hS (lv_sub hl [2, 3, 4, 5] rfl)
    · refine lv_aload_n hx hb dL_law_89 rfl (lv_at hl 4 rfl) ?_
      refine lv_iload hx hb dL_law_90 (lv_at hl 1 rfl) ?_
      refine zr_const hx hb dL_law_92 ?_
      refine lv_ishr hx hb dL_law_93 ?_
      refine lv_iload hx hb dL_law_94 (lv_at hl 0 rfl) ?_
      refine zr_const hx hb dL_law_96 ?_
      refine zr_add hx hb dL_law_97 ?_
      refine vp_callSi (va_Run.run (va_runS (As := [.int (v >>> (zI 5 &&& 31)), .int (zI ((j : Int) + 1))]) (rest := [.ref (gA g 0)]) ⟨hx, hb, hml, hown, hts⟩ (kL_low l D k L f (v >>> (zI 5 &&& 31)) ((j : Int) + 1) (by omega)) (va_cwS 2 hts gL_law_L_low rfl rfl rfl (by decide +kernel) ⟨Nat.le_of_ble_eq_true rfl, Nat.le_of_ble_eq_true rfl⟩) (rc_preS hC (vaP_l hP)) rfl rfl hl.1 rfl (lv_room (Nat.le_of_ble_eq_true rfl)) dL_law_98 ⟨Nat.le_trans (show _ ≤ 5000 by omega) (Nat.le_of_ble_eq_true rfl), Nat.le_trans (show _ ≤ 50000 by omega) (Nat.le_of_ble_eq_true rfl)⟩)) (fun r hr => ?_)
      have hr : r = zI (lowI (v >>> (zI 5 &&& 31)) ((j : Int) + 1)) := hr
      subst hr
      have hlo := lowI_r (x := v >>> (zI 5 &&& 31)) (n := (j : Int) + 1) (by omega)
      obtain ⟨i, hi⟩ : ∃ i : Nat, lowI (v >>> (zI 5 &&& 31)) ((j : Int) + 1) = (i : Int) := ⟨(lowI (v >>> (zI 5 &&& 31)) ((j : Int) + 1)).toNat, by omega⟩
      rw [hi]
      refine wr_calli (X := va_pl L f) (va_runS (As := [.ref (gA g 0), .int (zI (i : Int))]) (rest := []) ⟨hx, hb, hml, hown, hts⟩ (kL_isNodeSo l D k L f g S hR hO i (by omega) hlt s.heap.size H.size) (va_cwS 2 hts gL_law_L_isNodeSo rfl rfl rfl (by decide +kernel) ⟨Nat.le_of_ble_eq_true rfl, Nat.le_of_ble_eq_true rfl⟩) (xc_preS hC hX (vaP_l hP) hS.1 (vaD_l hD) hS hAn) rfl rfl hl.1 rfl (lv_room (Nat.le_of_ble_eq_true rfl)) dL_law_101 ⟨Nat.le_trans (show _ ≤ 5000 by omega) (Nat.le_of_ble_eq_true rfl), Nat.le_trans (show _ ≤ 50000 by omega) (Nat.le_of_ble_eq_true rfl)⟩) hP hD hS hA (fun r u H locs hu hP hD hS hz => ?_)
      obtain ⟨rfl, F3, g3, rfl, hg3, hR3⟩ := hu
      refine zr_ifb_eq (tgt := 122) hx hb dL_law_104 (by decide) (fun c9 => absurd c9 (by decide)) (fun _ => ?_)
      rw [← hg3] at hl
      refine lv_aload_n hx hb dL_law_107 rfl (lv_at hl 4 rfl) ?_
      refine lv_iload hx hb dL_law_108 (lv_at hl 0 rfl) ?_
      refine wr_calli (X := va_pl L F3) (va_runV (As := [.int (zI (j : Int))]) (rest := []) ⟨hx, hb, hml, hown, hts⟩ (kX9_regions l D k L F3 g3 S hR3 hO j (by omega) s.heap.size H.size) (cwV 1 hts gL_law_X9_regions rfl rfl rfl (by decide +kernel) ⟨Nat.le_of_ble_eq_true rfl, Nat.le_of_ble_eq_true rfl⟩) (pc_preV hC (vaP_l hP) hS.1 (vaD_l hD) hAn (pl_recv hK (vaP_l hP) (hR3.2.1 0 (by decide)) hR3.1.1 (ci := 8) (q := (RX9, TX9, 3)) rfl)) rfl rfl hl.1 rfl (lv_room (Nat.le_of_ble_eq_true rfl)) dL_law_110 ⟨Nat.le_trans (show _ ≤ 5000 by omega) (Nat.le_of_ble_eq_true rfl), Nat.le_trans (show _ ≤ 50000 by omega) (Nat.le_of_ble_eq_true rfl)⟩) hP hD hS hA (fun r u H locs hu hP hD hS hz => ?_)
      obtain ⟨e5, F4, rfl, hc4⟩ := hu
      have G5 := gat_rows hR3 hO (i := j) (by omega)
      obtain ⟨g4, hg4, hR4⟩ : ∃ gx : CG, gA gx 0 = gA g3 0 ∧ cRep k L F4 gx S := ⟨_, by rfl, hc4⟩
      subst e5
      refine lv_aload_n hx hb dL_law_113 rfl (lv_at hl 5 rfl) ?_
      refine lv_iload hx hb dL_law_114 (lv_at hl 0 rfl) ?_
      have hPm := tw_swapP hP
      have hDm := tw_swapD hD
      refine wr_calli (X := va_pl L2 f2) (va_runV (As := [.int (zI (j : Int))]) (rest := [.int (zI ((sizeR (gatN S (gD g3 j) (gR g3 2) 30 j) : Nat) : Int))]) ⟨hx, hb, hml, hown, hts⟩ (kX9_regions l D k L2 f2 g2 T hR2 hO2 j (by omega) s.heap.size H.size) (cwV 1 hts gL_law_X9_regions rfl rfl rfl (by decide +kernel) ⟨Nat.le_of_ble_eq_true rfl, Nat.le_of_ble_eq_true rfl⟩) (pc_preV hC (vaP_l hPm) hS.1 (vaD_l hDm) hAn (pl_recv hK (vaP_l hPm) (hR2.2.1 0 (by decide)) hR2.1.1 (ci := 8) (q := (RX9, TX9, 3)) rfl)) rfl rfl hl.1 rfl (lv_room (Nat.le_of_ble_eq_true rfl)) dL_law_116 ⟨Nat.le_trans (show _ ≤ 5000 by omega) (Nat.le_of_ble_eq_true rfl), Nat.le_trans (show _ ≤ 50000 by omega) (Nat.le_of_ble_eq_true rfl)⟩) hPm hDm hS hA (fun r u H locs hu hPm hDm hS hz => ?_)
      obtain ⟨e6, F5, rfl, hc5⟩ := hu
      have G6 := gat_rows hR2 hO2 (i := j) (by omega)
      obtain ⟨g5, hg5, hR5⟩ : ∃ gx : CG, gA gx 0 = gA g2 0 ∧ cRep k L2 F5 gx T := ⟨_, by rfl, hc5⟩
      rw [← sem_cong hE hO hO2 (j + 1) j (by omega) (by omega)] at G6
      rw [size_cong (Rp.eq G6 G5)] at e6
      subst e6
      have hsz := size_le (gatN S (gD g3 j) (gR g3 2) 30 j)
      refine zr_icmp_eq (tgt := 124) hx hb dL_law_119 (by decide) (by omega) (by omega) (fun _ => ?_) (fun c9 => absurd rfl c9)
      have hP := tw_swapP hPm
      have hD := tw_swapD hDm
      refine w_widen (k9 := cells + 28) (n9 := slots + 328) (by omega) (by omega) ?_
      rw [hg3] at hl
      exact hK9 S T L F4 g4 L2 F5 g5 H locs _ hR4 hO (hg4.trans hg3) hR5 hO2 hg5 hE hP hD hS (lv_sub hl [2, 3, 4, 5] rfl)

set_option maxHeartbeats 4000000 in
set_option maxRecDepth 100000 in
/-- the law's loop -/
theorem law_loop {p : Program} {l : Launch} {e : Env} {s : State} {m : MethodId} {below : List Frame} {meth : Method} {c : Code} {b Ln : Nat} {xs : Nat → Int32} (C0 : lw_At p s m meth c b Ln xs) (hlt : l.stackTraces = false) {D : va_G} {k : Nat → ClassId} (hC : cK D (tyL k) s) (hX : xW s.heap.size s) {x0 y0 : Nat} (hLn : Ln ≤ 2048) : ∀ (n9 t : Nat), 70 < t + n9 → t ≤ 70 → ∀ (S T : SA) (L : List Nat) (f : Nat → va_E) (g : CG) (L2 : List Nat) (f2 : Nat → va_E) (g2 : CG) (H : Heap) (locs : List Loc) (ls : Array Slot), cRep k L f g S → aOK S → gA g 0 = x0 → cRep k L2 f2 g2 T → aOK T → gA g2 0 = y0 → eqS S T → va_P D vwCl (va_pl L f ++ va_pl L2 f2) H → va_D (fun q : Nat => s.heap.size ≤ q) (va_pl L f ++ va_pl L2 f2) → va_S (fun q : Nat => s.heap.size ≤ q) s.heap H locs → lv_has ls 7 [(3, .int (zI (t : Int))), (0, .ref b), (1, .ref x0), (2, .ref y0)] → W p l e room_1 s m #[Value.ref b] below meth c H locs (26 + 28 * t) (328 + 328 * t) (lw_Z below #[Value.ref b] s) (F0 m 18 ls []) := by
  obtain ⟨hx, hb, hrt, hml, hown0, hts0, hXs, hbl, hlocks, hgv⟩ := id C0
  have hown : s.vm.findClass RL = some m.cls := hown0
  have hts : ∀ w ∈ wsL_law, w.before #[Value.ref b] s = true := fun w h => hts0 w (wsL_law_in w h)
  have hbA : ¬ (fun q : Nat => s.heap.size ≤ q) b := Nat.not_le.mpr hbl
  have hK := hC.1
  have hNW := hC.2.1
  have hA : ∀ q : Nat, s.heap.size ≤ q → (fun q : Nat => s.heap.size ≤ q) q := fun _ h => h
  have hAn : ∀ q : Nat, (fun q : Nat => s.heap.size ≤ q) q → s.heap.size ≤ q := fun _ h => h
  intro n9
  induction n9 with
  | zero => intro t h1 h2; omega
  | succ n9 ih =>
    intro t h1 h2 S T L f g L2 f2 g2 H locs ls hR hO hg hR2 hO2 hg2 hE hP hD hS hl
    subst hg
    subst hg2
    refine lv_iload_n hx hb dL_law_18 rfl (lv_at hl 0 rfl) ?_
    refine zr_bipush hx hb dL_law_19 (by decide) ?_
    refine zr_icmp_ge (tgt := 130) hx hb dL_law_21 (by decide) (by omega) (by omega) (fun c1 => ?_) (fun c1 => ?_)
    · refine lv_aload_n hx hb dL_law_130 rfl (lv_at hl 2 rfl) ?_
      refine lv_aload_n hx hb dL_law_131 rfl (lv_at hl 3 rfl) ?_
      refine vp_callSi (va_Run.run (va_runS (As := [.ref (gA g 0), .ref (gA g2 0)]) (rest := []) ⟨hx, hb, hml, hown, hts⟩ (kL_areAlike l D k L f g S hR hO L2 f2 g2 T hR2 hO2 hE) (va_cwS 2 hts gL_law_L_areAlike rfl rfl rfl (by decide +kernel) ⟨Nat.le_of_ble_eq_true rfl, Nat.le_of_ble_eq_true rfl⟩) (rc_preS hC hP) rfl rfl hl.1 rfl (lv_room (Nat.le_of_ble_eq_true rfl)) dL_law_132 ⟨Nat.le_trans (show _ ≤ 5000 by omega) (Nat.le_of_ble_eq_true rfl), Nat.le_trans (show _ ≤ 50000 by omega) (Nat.le_of_ble_eq_true rfl)⟩)) (fun r hr => ?_)
      have hr : r = bI true := hr
      subst hr
      refine zr_top (y := 1) (by decide) ?_
      refine va_forget (fun q hq => hS.2.2 q hq) ?_
      refine W.widen (k := 600130) (n := 7301080) (by omega) (by omega) ?_
      exact lw_ret hx hb hrt hlocks dL_law_135
    · have hKe : KEnd p l e s m b below meth c (26 + 28 * t) (328 + 328 * t) (lw_Z below #[Value.ref b] s) D k (gA g 0) (gA g2 0) t := by
        intro S2 T2 La fa ga Lb fb gb H1 locs1 ls2 a1 a2 a3 a4 a5 a6 a7 a8 a9 a10 hl
        refine zr_iinc (k := 0) (lv' := [(3, .int (zI ((t : Int) + 1))), (0, .ref b), (1, .ref (gA g 0)), (2, .ref (gA g2 0))]) hx hb dL_law_124 hl rfl (by decide) rfl (fun ls hl => ?_)
        refine lv_goto (tgt := 18) hx hb dL_law_127 (by decide) ?_
        rw [show ((t : Int) + 1) = ((t + 1 : Nat) : Int) by omega] at hl
        rw [show 26 + 28 * t + 28 = 26 + 28 * (t + 1) by omega, show 328 + 328 * t + 328 = 328 + 328 * (t + 1) by omega]
        exact ih (t + 1) (by omega) (by omega) S2 T2 La fa ga Lb fb gb H1 locs1 ls a1 a2 a3 a4 a5 a6 a7 a8 a9 a10 hl
      refine lv_aload_n hx hb dL_law_24 rfl (lv_at hl 1 rfl) ?_
      refine lv_iload_n hx hb dL_law_25 rfl (lv_at hl 0 rfl) ?_
      refine vp_callSi (va_Run.run (va_runS (As := [.ref b, .int (zI (t : Int))]) (rest := []) ⟨hx, hb, hml, hown, hts⟩ (kL_cell l b Ln xs hLn (t : Int) (by omega)) (va_cwS 2 hts gL_law_L_cell rfl rfl rfl (by decide +kernel) ⟨Nat.le_of_ble_eq_true rfl, Nat.le_of_ble_eq_true rfl⟩) ⟨fun a U g mk q => ⟨q.1, va_X.moved (u := U) (U := U.calling g mk a) (Vm.Alike.refl U.vm) q.2⟩, fun U hU hW => ⟨rfl, by show va_X b Ln xs U U.heap; rw [hU]; exact va_X.moved hW.alike (va_X.kept hXs (hS.2.1 b hbl hbA))⟩⟩ rfl rfl hl.1 rfl (lv_room (Nat.le_of_ble_eq_true rfl)) dL_law_26 ⟨Nat.le_trans (show _ ≤ 5000 by omega) (Nat.le_of_ble_eq_true rfl), Nat.le_trans (show _ ≤ 50000 by omega) (Nat.le_of_ble_eq_true rfl)⟩)) (fun v _ => ?_)
      refine lv_istore (lv' := [(4, .int v), (3, .int (zI (t : Int))), (0, .ref b), (1, .ref (gA g 0)), (2, .ref (gA g2 0))]) hx hb dL_law_29 hl (by decide) rfl (fun ls hl => ?_)
      refine lv_aload_n hx hb dL_law_31 rfl (lv_at hl 3 rfl) ?_
      refine lv_iload hx hb dL_law_32 (lv_at hl 0 rfl) ?_
      refine wr_calli (X := va_pl L f) (va_runS (As := [.ref (gA g 0), .int v]) (rest := []) ⟨hx, hb, hml, hown, hts⟩ (kL_act l D k L f g S hR hO v hlt s.heap.size H.size) (va_cwS 2 hts gL_law_L_act rfl rfl rfl (by decide +kernel) ⟨Nat.le_of_ble_eq_true rfl, Nat.le_of_ble_eq_true rfl⟩) (xc_preS hC hX (vaP_l hP) hS.1 (vaD_l hD) hS hAn) rfl rfl hl.1 rfl (lv_room (Nat.le_of_ble_eq_true rfl)) dL_law_34 ⟨Nat.le_trans (show _ ≤ 5000 by omega) (Nat.le_of_ble_eq_true rfl), Nat.le_trans (show _ ≤ 50000 by omega) (Nat.le_of_ble_eq_true rfl)⟩) hP hD hS hA (fun r u H locs hu hP hD hS hz => ?_)
      obtain ⟨kk, v1, S1, L1, F1, g1, rfl, hkk, rfl, hg1, hR1, hO1, hsp⟩ := hu
      have hvn := act_vn hO hsp
      have hcs : 26 + 28 * t + 28 ≤ 5000 := by omega
      have hss : 328 + 328 * t + 328 ≤ 50000 := by omega
      refine lv_istore (lv' := [(5, .int (if kk = 0 then v1 else -99999)), (4, .int v), (3, .int (zI (t : Int))), (0, .ref b), (1, .ref (gA g 0)), (2, .ref (gA g2 0))]) hx hb dL_law_37 hl (by decide) rfl (fun ls hl => ?_)
      refine lv_iload hx hb dL_law_39 (lv_at hl 0 rfl) ?_
      refine lv_ldc (v := -99999) hx hb hown (hts (.constant RL 16 (-99999)) (by decide +kernel)) dL_law_41 ?_
      refine lv_icmp_eq (tgt := 57) hx hb dL_law_43 (by decide) (fun c2 => ?_) (fun c2 => ?_)
      · rcases hvn with ⟨rfl, n, q1, q2, rfl⟩ | ⟨hk, e1⟩
        · rw [if_pos rfl] at c2
          exact absurd c2 (law_ne ⟨q1, q2⟩)
        · rw [e1] at hR1 hO1
          rw [← hg1] at hl hKe
          refine w_widen (k9 := 26 + 28 * t + 14) (n9 := 328 + 328 * t + 164) (by omega) (by omega) ?_
          exact law_57 C0 hlt hC hX hR1 hO1 hR2 hO2 hE hcs hss hP hD hS (by omega) (lv_sub hl [1, 2, 3, 4, 5] rfl) hKe
      · rcases hvn with ⟨hk0, n, q1, q2, hv1⟩ | ⟨hk, e1⟩
        · subst hk0
          refine lv_aload_n hx hb dL_law_46 rfl (lv_at hl 5 rfl) ?_
          refine lv_iload hx hb dL_law_47 (lv_at hl 1 rfl) ?_
          have hPm := tw_swapP hP
          have hDm := tw_swapD hD
          refine wr_calli (X := va_pl L2 f2) (va_runS (As := [.ref (gA g2 0), .int v]) (rest := []) ⟨hx, hb, hml, hown, hts⟩ (kL_act l D k L2 f2 g2 T hR2 hO2 v hlt s.heap.size H.size) (va_cwS 2 hts gL_law_L_act rfl rfl rfl (by decide +kernel) ⟨Nat.le_of_ble_eq_true rfl, Nat.le_of_ble_eq_true rfl⟩) (xc_preS hC hX (vaP_l hPm) hS.1 (vaD_l hDm) hS hAn) rfl rfl hl.1 rfl (lv_room (Nat.le_of_ble_eq_true rfl)) dL_law_49 ⟨Nat.le_trans (show _ ≤ 5000 by omega) (Nat.le_of_ble_eq_true rfl), Nat.le_trans (show _ ≤ 50000 by omega) (Nat.le_of_ble_eq_true rfl)⟩) hPm hDm hS hA (fun r u H locs hu hPm hDm hS hz => ?_)
          obtain ⟨kk2, v2, T1, L3, F3, g3, rfl, hkk2, rfl, hg3, hR3, hO3, hsp2⟩ := hu
          obtain ⟨hk2, hvv, hE2⟩ := act_fn hE hO hO2 hsp hsp2
          subst hk2
          refine lv_iload hx hb dL_law_52 (lv_at hl 0 rfl) ?_
          refine lv_icmp_ne (tgt := 65) hx hb dL_law_54 (by decide) (fun c3 => ?_) (fun c3 => ?_)
          · exact absurd (by rw [if_pos rfl, if_pos rfl, hvv rfl]) c3
          · have hP := tw_swapP hPm
            have hD := tw_swapD hDm
            rw [← hg1, ← hg3] at hl hKe
            refine w_widen (k9 := 26 + 28 * t + 14) (n9 := 328 + 328 * t + 164) (by omega) (by omega) ?_
            exact law_57 C0 hlt hC hX hR1 hO1 hR3 hO3 hE2 hcs hss hP hD hS (by omega) (lv_sub hl [1, 2, 3, 4, 5] rfl) hKe
        · exact absurd (if_neg hk) c2
