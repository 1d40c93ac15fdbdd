set_option maxHeartbeats 4000000 in
set_option maxRecDepth 100000 in
/-- from the entry, for every script of at most 260 ints, the law comes to its end with true -/
theorem whole_start {p : Program} {e : Env} {s : State} {m : MethodId} {below : List Frame} {meth : Method} {c : Code} (l : Launch) (hflags : l.flags = flags0) {b L : Nat} {xs : Nat → Int32} (hL : L ≤ 260) (C0 : lw_At p s m meth c b L xs) : W p l e room_1 s m #[Value.ref b] below meth c s.heap [] 0 0 (lw_Z below #[Value.ref b] s) (entryFrame m ([Value.ref b] : List Value).toArray 7) := by
  have hlt : l.stackTraces = false := by unfold Launch.stackTraces; rw [hflags]; decide
  obtain ⟨hx, hb, hrt, hml, hown0, hts0, hXs, hbl, hlocks, hgv⟩ := id C0
  have hown : s.vm.findClass RL = some m.cls := hown0
  have hts : ∀ w ∈ wsL_law, w.before #[Value.ref b] s = true := fun w h => hts0 w (wsL_law_in w h)
  have hX := st_xw hts0 hgv
  obtain ⟨D, k, hC⟩ := st_ck hts0
  have hK := hC.1
  have hA : ∀ q : Nat, s.heap.size ≤ q → (fun q : Nat => s.heap.size ≤ q) q := fun _ h => h
  have hAn : ∀ q : Nat, (fun q : Nat => s.heap.size ≤ q) q → s.heap.size ≤ q := fun _ h => h
  have hS : va_S (fun q : Nat => s.heap.size ≤ q) s.heap s.heap [] := va_S.rf
  have hP : va_P D vwCl (va_pl [] (fun _ => .inr (0, []))) s.heap := fun k q h => by simp [va_pl] at h
  have hD : va_D (fun q : Nat => s.heap.size ≤ q) (va_pl [] (fun _ => .inr (0, []))) := ⟨fun i j p q h => by simp [va_pl] at h, fun k q h => by simp [va_pl] at h⟩
  have hl := lv_entry ([.ref b]) (n := 7) (Nat.le_of_ble_eq_true rfl)
  rw [lg_entry_eq]
  generalize (lg_sl ([.ref b]) ++ List.replicate (7 - (lg_sl ([.ref b])).length) Slot.unset).toArray = ls at hl ⊢
  have hl : lv_has ls 7 [(0, .ref b)] := hl
  have hi_X9 : ∀ w ∈ u_ws RX9 TX9 3, w ∈ wsL_law := by decide +kernel
  refine pl_obj (ci := 8) (fs := [.null, .null, .int 0]) (C := RX9) (T := TX9) (N := 3) hx hb hts hi_X9 tyX9 tyX9_ok hown (hts (.classLink RL 9 RX9) (by decide +kernel)) (hts (.instantiable RX9 3) (by decide +kernel)) (hts (.initialized RX9) (by decide +kernel)) hK hP hD hS hA rfl (fun j hj => by rcases (show j = 0 ∨ j = 1 ∨ j = 2 by omega) with rfl | rfl | rfl <;> rfl) (Nat.le_of_ble_eq_true rfl) (Nat.le_of_ble_eq_true rfl) dL_law_0 (fun q0 H hq0 hP hD hS => ?_)
  refine lv_dup hx hb dL_law_3 rfl ?_
  refine pc_callv (va_runI (As := []) (rest := [.ref q0]) ⟨hx, hb, hml, hown, hts⟩ (kX9_init l D k ([] ++ [q0]) (va_up (fun _ => .inr (0, [])) q0 (.inr (8, [.null, .null, .int 0]))) q0 (by simp) (va_up_self _ _ _) s.heap.size H.size) (cwI 0 hts gL_law_X9_init rfl rfl rfl (hts (.initialized RX9) (by decide +kernel)) (hts (.methodLink RL 109 yX9_init) (by decide +kernel)) (hts (.instanceMethod yX9_init) (by decide +kernel)) rfl (by decide +kernel) ⟨Nat.le_of_ble_eq_true rfl, Nat.le_of_ble_eq_true rfl⟩) (pc_preS hC hP hS.1 hD hAn) rfl rfl hl.1 rfl (lv_room (Nat.le_of_ble_eq_true rfl)) dL_law_4 ⟨Nat.le_of_ble_eq_true rfl, Nat.le_of_ble_eq_true rfl⟩) hD hS hA (fun u H locs hu hP hD hS hz => ?_)
  obtain ⟨L2, F, g, rfl, hg, hR⟩ := hu
  refine lv_astore_n (lv' := [(1, .ref q0), (0, .ref b)]) hx hb dL_law_7 rfl hl (by decide) rfl (fun ls hl => ?_)
  refine va_new (ci := 8) (fs := [.null, .null, .int 0]) (C := RX9) (T := TX9) (N := 3) hx hb hts hi_X9 tyX9 tyX9_ok hown (hts (.classLink RL 9 RX9) (by decide +kernel)) (hts (.instantiable RX9 3) (by decide +kernel)) (hts (.initialized RX9) (by decide +kernel)) hK hP hD hS hA rfl (fun j hj => by rcases (show j = 0 ∨ j = 1 ∨ j = 2 by omega) with rfl | rfl | rfl <;> rfl) (Nat.le_of_ble_eq_true rfl) (Nat.le_of_ble_eq_true rfl) dL_law_8 (fun q1 H hP hD hS => ?_)
  refine lv_dup hx hb dL_law_11 rfl ?_
  have hPm : va_P D vwCl (va_pl [q1] (fun _ => .inr (8, [.null, .null, .int 0])) ++ va_pl L2 F) H := tw_swapP hP
  have hDm : va_D (fun q : Nat => s.heap.size ≤ q) (va_pl [q1] (fun _ => .inr (8, [.null, .null, .int 0])) ++ va_pl L2 F) := tw_swapD hD
  refine wr_callv (X := va_pl [q1] (fun _ => .inr (8, [.null, .null, .int 0]))) (Y := va_pl L2 F) (va_runI (As := []) (rest := [.ref q1]) ⟨hx, hb, hml, hown, hts⟩ (kX9_init l D k [q1] (fun _ => .inr (8, [.null, .null, .int 0])) q1 (List.mem_singleton.mpr rfl) rfl s.heap.size H.size) (cwI 0 hts gL_law_X9_init rfl rfl rfl (hts (.initialized RX9) (by decide +kernel)) (hts (.methodLink RL 109 yX9_init) (by decide +kernel)) (hts (.instanceMethod yX9_init) (by decide +kernel)) rfl (by decide +kernel) ⟨Nat.le_of_ble_eq_true rfl, Nat.le_of_ble_eq_true rfl⟩) (pc_preS hC (vaP_l hPm) hS.1 (vaD_l hDm) hAn) rfl rfl hl.1 rfl (lv_room (Nat.le_of_ble_eq_true rfl)) dL_law_12 ⟨Nat.le_of_ble_eq_true rfl, Nat.le_of_ble_eq_true rfl⟩) hPm hDm hS hA (fun u H locs hu hPm hDm hS hz => ?_)
  obtain ⟨L3, F3, g3, rfl, hg3, hR3⟩ := hu
  refine lv_astore_n (lv' := [(2, .ref q1), (1, .ref q0), (0, .ref b)]) hx hb dL_law_15 rfl hl (by decide) rfl (fun ls hl => ?_)
  refine zr_const hx hb dL_law_16 ?_
  refine lv_istore_n (lv' := [(3, .int (zI 0)), (2, .ref q1), (1, .ref q0), (0, .ref b)]) hx hb dL_law_17 rfl hl (by decide) rfl (fun ls hl => ?_)
  exact law_loop C0 hlt hC hX (x0 := q0) (y0 := q1) (Nat.le_trans hL (by decide)) 71 0 (by omega) (by omega) S00 S00 L2 F g L3 F3 g3 H _ _ hR S00_ok hg hR3 S00_ok hg3 (eqS.refl _) (tw_swapP hPm) (tw_swapD hDm) hS (lv_sub hl [0, 3, 2, 1] rfl)
