set_option maxHeartbeats 4000000 in
theorem mRep.start {k : Nat → ClassId} {F : Nat → va_E} {A : Nat → Prop} {h t1 t2 t3 t4 t5 t6 t7 t8 t9 t10 : Nat} (hD : va_D A (va_pl ([h] ++ [t1] ++ [t2] ++ [t3] ++ [t4] ++ [t5] ++ [t6] ++ [t7] ++ [t8] ++ [t9] ++ [t10]) F)) (e0 : F h = .inr (9, [.int (0), .ref t1, .int (0), .ref t2, .int (0), .ref t3, .ref t4, .ref t5, .ref t6, .ref t7, .ref t8, .ref t9, .ref t10])) (e1 : F t1 = .inl (k 0, 24, .inl (fun _ => 0))) (e2 : F t2 = .inl (k 0, 100, .inl (fun _ => 0))) (e3 : F t3 = .inl (k 0, 30, .inl (fun _ => 0))) (e4 : F t4 = .inl (k 0, 30, .inl (fun _ => 0))) (e5 : F t5 = .inl (k 0, 30, .inl (fun _ => 0))) (e6 : F t6 = .inl (k 0, 30, .inl (fun _ => 0))) (e7 : F t7 = .inl (k 0, 30, .inl (fun _ => 0))) (e8 : F t8 = .inl (k 1, 30, .inl (fun _ => 0))) (e9 : F t9 = .inl (k 0, 750, .inl (fun _ => 0))) (e10 : F t10 = .inl (k 0, 25, .inl (fun _ => 0))) : mRep k ([h] ++ [t1] ++ [t2] ++ [t3] ++ [t4] ++ [t5] ++ [t6] ++ [t7] ++ [t8] ++ [t9] ++ [t10]) F (fun j => ([h, t1, t2, t3, t4, t5, t6, t7, t8, t9, t10] : List Nat).getD j 0) 0 0 0 (fun _ => 0) (fun _ => 0) (fun _ => 0) (fun _ => 0) (fun _ => 0) (fun _ => 0) (fun _ => 0) (fun _ => 0) (fun _ => 0) (fun _ => 0) := by
  have hg : ∀ i, i < 11 → (va_pl ([h] ++ [t1] ++ [t2] ++ [t3] ++ [t4] ++ [t5] ++ [t6] ++ [t7] ++ [t8] ++ [t9] ++ [t10]) F)[i]? = some ((fun j => ([h, t1, t2, t3, t4, t5, t6, t7, t8, t9, t10] : List Nat).getD j 0) i, F ((fun j => ([h, t1, t2, t3, t4, t5, t6, t7, t8, t9, t10] : List Nat).getD j 0) i)) := by
    intro i hi
    rcases (show i = 0 ∨ i = 1 ∨ i = 2 ∨ i = 3 ∨ i = 4 ∨ i = 5 ∨ i = 6 ∨ i = 7 ∨ i = 8 ∨ i = 9 ∨ i = 10 by omega) with rfl | rfl | rfl | rfl | rfl | rfl | rfl | rfl | rfl | rfl | rfl <;> rfl
  have hL : ∀ i, i < 11 → ([h] ++ [t1] ++ [t2] ++ [t3] ++ [t4] ++ [t5] ++ [t6] ++ [t7] ++ [t8] ++ [t9] ++ [t10])[i]? = some ((fun j => ([h, t1, t2, t3, t4, t5, t6, t7, t8, t9, t10] : List Nat).getD j 0) i) := by
    intro i hi
    rcases (show i = 0 ∨ i = 1 ∨ i = 2 ∨ i = 3 ∨ i = 4 ∨ i = 5 ∨ i = 6 ∨ i = 7 ∨ i = 8 ∨ i = 9 ∨ i = 10 by omega) with rfl | rfl | rfl | rfl | rfl | rfl | rfl | rfl | rfl | rfl | rfl <;> rfl
  refine ⟨?_, e1, e2, e3, e4, e5, e6, e7, e8, e9, e10, fun j hj => List.mem_of_getElem? (hL j hj), fun i j hi hj he => hD.1 i j _ _ (hg i hi) (hg j hj) he⟩
  rw [zI_0]
  exact e0

theorem sync_0 : mSync S00 (fun _ => 0) (fun _ => 0) (fun _ => 0) (fun _ => 0) (fun _ => 0) (fun _ => 0) (fun _ => 0) := ⟨fun _ _ => rfl, fun _ _ => ⟨fun _ _ => rfl, rfl⟩, fun i h => absurd (show i < 0 from h) (Nat.not_lt_zero i)⟩

set_option maxHeartbeats 4000000 in
set_option maxRecDepth 100000 in
/-- from the entry, for every script of at most 2048 ints, the law comes to its end with true -/
theorem whole_start {p : Program} {e : Env} {s : State} {m : MethodId} {below : List Frame} {meth : Method} {c : Code} (l : Launch) (hflags : l.flags = flags0) {b L : Nat} {xs : Nat → Int32} (hL : L ≤ 2048) (C0 : lw_At p s m meth c b L xs) : W p l e room_1 s m #[Value.ref b] below meth c s.heap [] 0 0 (lw_Z below #[Value.ref b] s) (entryFrame m ([Value.ref b] : List Value).toArray 7) := by
  have hlt : l.stackTraces = false := by unfold Launch.stackTraces; rw [hflags]; decide
  obtain ⟨hx, hb, hrt, hml, hown0, hts0, hXs, hbl, hlocks, hgv⟩ := id C0
  have hown : s.vm.findClass RL = some m.cls := hown0
  have hts : ∀ w ∈ wsL_law, w.before #[Value.ref b] s = true := fun w h => hts0 w (wsL_law_in w h)
  have hX := st_xw hts0 hgv
  obtain ⟨D, k, hC⟩ := st_ck hts0
  have hK := hC.1
  have hA : ∀ q : Nat, s.heap.size ≤ q → (fun q : Nat => s.heap.size ≤ q) q := fun _ h => h
  have hAn : ∀ q : Nat, (fun q : Nat => s.heap.size ≤ q) q → s.heap.size ≤ q := fun _ h => h
  have hS : va_S (fun q : Nat => s.heap.size ≤ q) s.heap s.heap [] := va_S.rf
  have hP : va_P D vwCl (va_pl [] (fun _ => .inr (0, []))) s.heap := fun k q h => by simp [va_pl] at h
  have hD : va_D (fun q : Nat => s.heap.size ≤ q) (va_pl [] (fun _ => .inr (0, []))) := ⟨fun i j p q h => by simp [va_pl] at h, fun k q h => by simp [va_pl] at h⟩
  have hl := lv_entry ([.ref b]) (n := 7) (Nat.le_of_ble_eq_true rfl)
  rw [lg_entry_eq]
  generalize (lg_sl ([.ref b]) ++ List.replicate (7 - (lg_sl ([.ref b])).length) Slot.unset).toArray = ls at hl ⊢
  have hl : lv_has ls 7 [(0, .ref b)] := hl
  have hi_X9 : ∀ w ∈ u_ws RX9 TX9 3, w ∈ wsL_law := by decide +kernel
  have hi_X10 : ∀ w ∈ u_ws RX10 TX10 13, w ∈ wsL_law := by decide +kernel
  refine pl_obj (ci := 8) (fs := [.null, .null, .int 0]) (C := RX9) (T := TX9) (N := 3) hx hb hts hi_X9 tyX9 tyX9_ok hown (hts (.classLink RL 8 RX9) (by decide +kernel)) (hts (.instantiable RX9 3) (by decide +kernel)) (hts (.initialized RX9) (by decide +kernel)) hK hP hD hS hA rfl (fun j hj => by rcases (show j = 0 ∨ j = 1 ∨ j = 2 by omega) with rfl | rfl | rfl <;> rfl) (Nat.le_of_ble_eq_true rfl) (Nat.le_of_ble_eq_true rfl) dL_law_0 (fun q0 H hq0 hP hD hS => ?_)
  refine lv_dup hx hb dL_law_3 rfl ?_
  refine pc_callv (va_runI (As := []) (rest := [.ref q0]) ⟨hx, hb, hml, hown, hts⟩ (kX9_init l D k ([] ++ [q0]) (va_up (fun _ => .inr (0, [])) q0 (.inr (8, [.null, .null, .int 0]))) q0 (by simp) (va_up_self _ _ _) s.heap.size H.size) (cwI 0 hts gL_law_X9_init rfl rfl rfl (hts (.initialized RX9) (by decide +kernel)) (hts (.methodLink RL 71 yX9_init) (by decide +kernel)) (hts (.instanceMethod yX9_init) (by decide +kernel)) rfl (by decide +kernel) ⟨Nat.le_of_ble_eq_true rfl, Nat.le_of_ble_eq_true rfl⟩) (pc_preS hC hP hS.1 hD hAn) rfl rfl hl.1 rfl (lv_room (Nat.le_of_ble_eq_true rfl)) dL_law_4 ⟨Nat.le_of_ble_eq_true rfl, Nat.le_of_ble_eq_true rfl⟩) hD hS hA (fun u H locs hu hP hD hS hz => ?_)
  obtain ⟨L2, F, g, rfl, hg, hR⟩ := hu
  refine lv_astore_n (lv' := [(1, .ref q0), (0, .ref b)]) hx hb dL_law_7 rfl hl (by decide) rfl (fun ls hl => ?_)
  refine va_new (ci := 9) (fs := [.int 0, .null, .int 0, .null, .int 0, .null, .null, .null, .null, .null, .null, .null, .null]) (C := RX10) (T := TX10) (N := 13) hx hb hts hi_X10 tyX10 tyX10_ok hown (hts (.classLink RL 72 RX10) (by decide +kernel)) (hts (.instantiable RX10 13) (by decide +kernel)) (hts (.initialized RX10) (by decide +kernel)) hK hP hD hS hA rfl (fun j hj => by rcases (show j = 0 ∨ j = 1 ∨ j = 2 ∨ j = 3 ∨ j = 4 ∨ j = 5 ∨ j = 6 ∨ j = 7 ∨ j = 8 ∨ j = 9 ∨ j = 10 ∨ j = 11 ∨ j = 12 by omega) with rfl | rfl | rfl | rfl | rfl | rfl | rfl | rfl | rfl | rfl | rfl | rfl | rfl <;> rfl) (Nat.le_of_ble_eq_true rfl) (Nat.le_of_ble_eq_true rfl) dL_law_8 (fun q1 H hP hD hS => ?_)
  refine lv_dup hx hb dL_law_11 rfl ?_
  have hPm : va_P D vwCl (va_pl [q1] (fun _ => .inr (9, [.int 0, .null, .int 0, .null, .int 0, .null, .null, .null, .null, .null, .null, .null, .null])) ++ va_pl L2 F) H := tw_swapP hP
  have hDm : va_D (fun q : Nat => s.heap.size ≤ q) (va_pl [q1] (fun _ => .inr (9, [.int 0, .null, .int 0, .null, .int 0, .null, .null, .null, .null, .null, .null, .null, .null])) ++ va_pl L2 F) := tw_swapD hD
  refine wr_callv (X := va_pl [q1] (fun _ => .inr (9, [.int 0, .null, .int 0, .null, .int 0, .null, .null, .null, .null, .null, .null, .null, .null]))) (Y := va_pl L2 F) (va_runI (As := []) (rest := [.ref q1]) ⟨hx, hb, hml, hown, hts⟩ (kX10_init l D k [q1] (fun _ => .inr (9, [.int 0, .null, .int 0, .null, .int 0, .null, .null, .null, .null, .null, .null, .null, .null])) q1 (List.mem_singleton.mpr rfl) rfl s.heap.size H.size) (cwI 0 hts gL_law_X10_init rfl rfl rfl (hts (.initialized RX10) (by decide +kernel)) (hts (.methodLink RL 74 yX10_init) (by decide +kernel)) (hts (.instanceMethod yX10_init) (by decide +kernel)) rfl (by decide +kernel) ⟨Nat.le_of_ble_eq_true rfl, Nat.le_of_ble_eq_true rfl⟩) (pc_preS hC (vaP_l hPm) hS.1 (vaD_l hDm) hAn) rfl rfl hl.1 rfl (lv_room (Nat.le_of_ble_eq_true rfl)) dL_law_12 ⟨Nat.le_of_ble_eq_true rfl, Nat.le_of_ble_eq_true rfl⟩) hPm hDm hS hA (fun u H locs hu hPm hDm hS hz => ?_)
  obtain ⟨t1, n1, t2, n2, t3, n3, t4, n4, t5, n5, t6, n6, t7, n7, t8, n8, t9, n9, t10, n10, F2, rfl, e0, e1, e2, e3, e4, e5, e6, e7, e8, e9, e10⟩ := hu
  refine lv_astore_n (lv' := [(2, .ref q1), (1, .ref q0), (0, .ref b)]) hx hb dL_law_15 rfl hl (by decide) rfl (fun ls hl => ?_)
  refine zr_const hx hb dL_law_16 ?_
  refine va_newa (atype := .long) (ty := .long) (N' := 1) (a0 := (1, .inr (.inl (fun _ => 0)))) hx hb (hts (.arrayClass .long) (by decide +kernel)) rfl hK hPm hDm hS hA (fun cA => rfl) (by decide) (by decide) (by decide) (Nat.le_of_ble_eq_true rfl) (Nat.le_of_ble_eq_true rfl) dL_law_17 (fun o cL H hK1 hPw hDw hS => ?_)
  refine lv_astore_n (lv' := [(3, .ref o), (2, .ref q1), (1, .ref q0), (0, .ref b)]) hx hb dL_law_19 rfl hl (by decide) rfl (fun ls hl => ?_)
  refine zr_const hx hb dL_law_20 ?_
  refine lv_istore (lv' := [(4, .int (zI 0)), (3, .ref o), (2, .ref q1), (1, .ref q0), (0, .ref b)]) hx hb dL_law_21 hl (by decide) rfl (fun ls hl => ?_)
  have hC2 : cK D (TYL k cL) s := ⟨hK1, hC.2⟩
  have hM := mRep.start (k := k) (vaD_l hDm) e0 e1 e2 e3 e4 e5 e6 e7 e8 e9 e10
  rw [List.append_assoc] at hPw hDw
  exact law_loop C0 hlt hC2 hX (Lm := [q1] ++ [t1] ++ [t2] ++ [t3] ++ [t4] ++ [t5] ++ [t6] ++ [t7] ++ [t8] ++ [t9] ++ [t10]) (a := fun j => ([q1, t1, t2, t3, t4, t5, t6, t7, t8, t9, t10] : List Nat).getD j 0) (x0 := q0) (o := o) hL 513 0 (by omega) (by omega) S00 L2 F g F2 0 (fun _ => 0) (fun _ => 0) (fun _ => 0) (fun _ => 0) (fun _ => 0) (fun _ => 0) (fun _ => 0) (fun _ => 0) (fun _ => 0) (fun _ => 0) (fun _ => 0) H _ _ hR S00_ok hg hM (by decide) sync_0 (tw_swapP hPw) (tw_swapD hDw) hS (lv_sub hl [0, 4, 3, 2, 1] rfl)
