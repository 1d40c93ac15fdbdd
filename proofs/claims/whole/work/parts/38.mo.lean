def kindS (S : SA) (q : Nat) (G : Nat → Int32) : SA := (sN S, sT S, (fun j => if j = q then G else sR S j), S.2.2.2)
theorem mSync.ins {S : SA} {A1 A2 A3 A4 A5 A6 A7 K2 T1 : Nat → Int32} {z : Nat} {y : Int} (hO : aOK S) (hY : mSync S A1 A2 A3 A4 A5 A6 A7) (hz : (z : Int) ≤ sN S) (hn : sN S < 24) (hT : T1 = shU A1 (z : Int) (sN S) (z : Int)) (hK : kdI S A2 K2 (z : Int) ((z : Int) + 1) 1 4) {G : Nat → Nat → Int32} (hG : ∀ i, i < 4 → ∀ j : Nat, j < 24 → G i j = op2 (sR S i) (z : Int) 24 j) : mSync (insS S (z : Int) y G) (upd T1 z (zI y)) K2 A3 A4 A5 A6 A7 := by
  refine ⟨fun j hj => ?_, ?_, hY.2.2⟩
  · show upd T1 z (zI y) j = upd (shU (sT S) (z : Int) (sN S) (z : Int)) (z : Int).toNat (zI y) j
    rw [Int.toNat_natCast]
    by_cases c : j = z
    · subst c; rw [pk_us, pk_us]
    · rw [pk_un c, pk_un c, hT]
      unfold shU
      by_cases d : (z : Int) < j ∧ (j : Int) ≤ sN S
      · rw [if_pos d, if_pos d, hY.1 (j - 1) (by omega)]
      · rw [if_neg d, if_neg d, hY.1 j hj]
  · exact kd_rows hO hK (Or.inl ⟨rfl, hn⟩) fun q hq j hj t ht => by show bt (G q j) t = true ↔ _; rw [hG q hq j hj]; exact op2_mv hO hq hz hn hj ht
theorem mSync.rem {S : SA} {A1 A2 A3 A4 A5 A6 A7 K2 T1 : Nat → Int32} {z : Nat} (hO : aOK S) (hY : mSync S A1 A2 A3 A4 A5 A6 A7) (hz : (z : Int) < sN S) (hT : T1 = shD A1 (z : Int) (sN S - 1)) (hK : kdI S A2 K2 ((z : Int) + 1) ((z : Int) + 1) (-1) 4) : mSync (remS S (z : Int) (fun i => fa_fill (clF (sR S i) (z : Int)) (sR S i) 24)) T1 K2 A3 A4 A5 A6 A7 := by
  have hn := hO.1
  refine ⟨fun j hj => ?_, ?_, hY.2.2⟩
  · show T1 j = shD (sT S) (z : Int) (sN S - 1) j
    rw [hT]
    unfold shD
    by_cases d : (z : Int) ≤ j ∧ (j : Int) < sN S - 1
    · rw [if_pos d, if_pos d, hY.1 (j + 1) (by omega)]
    · rw [if_neg d, if_neg d, hY.1 j hj]
  · exact kd_rows hO hK (Or.inr rfl) fun q hq j hj t ht => by show bt (fa_fill (clF (sR S q) (z : Int)) (sR S q) 24 j) t = true ↔ _; rw [fa_fill_in hj]; exact clF_mv hO hq hz hj ht
theorem aOK.ins {S : SA} (hO : aOK S) {z : Nat} {y : Int} (hz : (z : Int) ≤ sN S) (hn : sN S < 24) (hy : 0 ≤ y ∧ y < 6) {G : Nat → Nat → Int32} (hG : ∀ i, i < 4 → ∀ j : Nat, j < 24 → G i j = op2 (sR S i) (z : Int) 24 j) : aOK (insS S (z : Int) y G) := by
  have h0 := hO.1
  refine ⟨by show 0 ≤ sN S + 1 ∧ sN S + 1 ≤ 24; omega, fun j hj => ?_, fun q hq j hj t ht hb => ?_, hO.2.2.2⟩
  · have hj : (j : Int) < sN S + 1 := hj
    show ∃ y9 : Nat, y9 < 6 ∧ upd (shU (sT S) (z : Int) (sN S) (z : Int)) (z : Int).toNat (zI y) j = zI (y9 : Int)
    rw [Int.toNat_natCast]
    by_cases c : j = z
    · subst c; exact ⟨y.toNat, by omega, by rw [pk_us, Int.toNat_of_nonneg hy.1]⟩
    · rw [pk_un c]
      unfold shU
      by_cases d : (z : Int) < j ∧ (j : Int) ≤ sN S
      · rw [if_pos d]; exact hO.2.1 (j - 1) (by omega)
      · rw [if_neg d]; exact hO.2.1 j (by omega)
  · have hb : bt (G q j) t = true := hb
    rw [hG q hq j hj, op2_mv hO hq hz hn hj ht] at hb
    obtain ⟨x, y9, h1, h2, h3, h4⟩ := hb
    have := hO.2.2.1 q hq x h1.1 y9 h1.2.1 h1.2.2
    refine ⟨h4, ?_⟩
    show (t : Int) ≤ sN S + 1
    by_cases c : (z : Int) + 1 ≤ y9
    · rw [mvF_t c] at h3; omega
    · rw [mvF_f c] at h3; omega
theorem aOK.rem {S : SA} (hO : aOK S) {z : Nat} (hz : (z : Int) < sN S) : aOK (remS S (z : Int) (fun i => fa_fill (clF (sR S i) (z : Int)) (sR S i) 24)) := by
  have h0 := hO.1
  refine ⟨by show 0 ≤ sN S - 1 ∧ sN S - 1 ≤ 24; omega, fun j hj => ?_, fun q hq j hj t ht hb => ?_, hO.2.2.2⟩
  · have hj : (j : Int) < sN S - 1 := hj
    show ∃ y9 : Nat, y9 < 6 ∧ shD (sT S) (z : Int) (sN S - 1) j = zI (y9 : Int)
    unfold shD
    by_cases d : (z : Int) ≤ j ∧ (j : Int) < sN S - 1
    · rw [if_pos d]; exact hO.2.1 (j + 1) (by omega)
    · rw [if_neg d]; exact hO.2.1 j (by omega)
  · have hb : bt (fa_fill (clF (sR S q) (z : Int)) (sR S q) 24 j) t = true := hb
    rw [fa_fill_in hj, clF_mv hO hq hz hj ht] at hb
    obtain ⟨x, y9, h1, h2, h3, h4⟩ := hb
    have := hO.2.2.1 q hq x h1.1 y9 h1.2.1 h1.2.2
    refine ⟨h4, ?_⟩
    show (t : Int) ≤ sN S - 1
    by_cases c : (z : Int) + 1 ≤ y9
    · rw [mvF_t c] at h3; omega
    · rw [mvF_f c] at h3; omega
theorem aOK_setK {S : SA} (hO : aOK S) {q : Nat} {G : Nat → Int32} (hG : rowsOK (sN S) G) : aOK (kindS S q G) := by
  refine ⟨hO.1, hO.2.1, fun p hp => ?_, hO.2.2.2⟩
  show rowsOK (sN S) (if p = q then G else sR S p)
  by_cases c : p = q
  · rw [if_pos c]; exact hG
  · rw [if_neg c]; exact hO.2.2.1 p hp
theorem mSync_setK {S : SA} {A1 A2 A3 A4 A5 A6 A7 K2 : Nat → Int32} (hY : mSync S A1 A2 A3 A4 A5 A6 A7) {q : Nat} {G : Nat → Int32} (h1 : ∀ p, p / 25 ≠ q → K2 p = A2 p) (h2 : ∀ j, j < 24 → K2 (25 * q + j) = G j) (h3 : K2 (25 * q + 24) = 0) : mSync (kindS S q G) A1 K2 A3 A4 A5 A6 A7 := by
  refine ⟨hY.1, fun p hp => ?_, hY.2.2⟩
  show (∀ j, j < 24 → K2 (25 * p + j) = (if p = q then G else sR S p) j) ∧ _
  by_cases c : p = q
  · subst c; rw [if_pos rfl]; exact ⟨h2, h3⟩
  · rw [if_neg c]
    exact ⟨fun j hj => by rw [h1 _ (by omega)]; exact (hY.2.1 p hp).1 j hj, by rw [h1 _ (by omega)]; exact (hY.2.1 p hp).2⟩
theorem add_ok {S : SA} (hO : aOK S) {q y x : Nat} (hq : q < 4) (h : y < x ∧ (x : Int) ≤ sN S) : rowsOK (sN S) (addR (sR S q) (y : Int) (x : Int)) := fun j hj t ht hb => by
  have hn := hO.1
  rw [addR_in (by omega), Int.toNat_natCast, Int.toNat_natCast] at hb
  by_cases c : j = y
  · subst c
    rw [pk_us, b_or, Bool.or_eq_true, bt_pw (by omega), decide_eq_true_eq] at hb
    rcases hb with hb | hb
    · exact hO.2.2.1 q hq j hj t ht hb
    · omega
  · rw [pk_un c] at hb
    exact hO.2.2.1 q hq j hj t ht hb
theorem drop_ok {S : SA} (hO : aOK S) {q : Nat} (hq : q < 4) (y x : Int) : rowsOK (sN S) (dropR (sR S q) y x) := fun j hj t ht hb => by
  have h0 := hO.2.2.1 q hq j hj t ht
  by_cases c : hasB (sR S q) y x = true
  · have hr := (hasB_rng c).1
    rw [dropR_t c, setR_in ⟨hr.1, hr.2.1⟩] at hb
    by_cases d : j = y.toNat
    · subst d
      rw [pk_us, rowAt_in ⟨hr.1, hr.2.1⟩, b_and, Bool.and_eq_true] at hb
      exact h0 hb.1
    · rw [pk_un d] at hb; exact h0 hb
  · rw [dropR_f (Bool.eq_false_iff.mpr c)] at hb; exact h0 hb
theorem mSync.add {S : SA} {A1 A2 A3 A4 A5 A6 A7 : Nat → Int32} (hO : aOK S) (hY : mSync S A1 A2 A3 A4 A5 A6 A7) {q y x : Nat} (hq : q < 4) (h : y < x ∧ (x : Int) ≤ sN S) {v : Int32} (hv : v = A2 (25 * q + y) ||| pw x) : mSync (kindS S q (addR (sR S q) (y : Int) (x : Int))) A1 (upd A2 (25 * q + y) v) A3 A4 A5 A6 A7 := by
  have hn := hO.1
  refine mSync_setK hY (fun p hp => pk_un (by omega)) (fun j hj => ?_) (by rw [pk_un (by omega)]; exact (hY.2.1 q hq).2)
  rw [addR_in (by omega), Int.toNat_natCast, Int.toNat_natCast]
  by_cases c : j = y
  · subst c; rw [pk_us, pk_us, hv, (hY.2.1 q hq).1 j hj]
  · rw [pk_un (by omega), pk_un c]; exact (hY.2.1 q hq).1 j hj
theorem mSync.drop {S : SA} {A1 A2 A3 A4 A5 A6 A7 : Nat → Int32} (hY : mSync S A1 A2 A3 A4 A5 A6 A7) {q a b : Nat} (hq : q < 4) (ha : a < 24) (hb : hasB (sR S q) (a : Int) (b : Int) = true) {v : Int32} (hv : v = A2 (25 * q + a) &&& (pw b ^^^ zI (-1))) : mSync (kindS S q (dropR (sR S q) (a : Int) (b : Int))) A1 (upd A2 (25 * q + a) v) A3 A4 A5 A6 A7 := by
  refine mSync_setK hY (fun p hp => pk_un (by omega)) (fun j hj => ?_) (by rw [pk_un (by omega)]; exact (hY.2.1 q hq).2)
  rw [dropR_t hb, setR_in (by omega), rowAt_in (by omega), Int.toNat_natCast, Int.toNat_natCast]
  by_cases c : j = a
  · subst c; rw [pk_us, pk_us, hv, (hY.2.1 q hq).1 j hj]
  · rw [pk_un (by omega), pk_un c]; exact (hY.2.1 q hq).1 j hj
theorem mk_had {S : SA} {A1 A2 A3 A4 A5 A6 A7 : Nat → Int32} (hO : aOK S) (hY : mSync S A1 A2 A3 A4 A5 A6 A7) {q y x : Nat} (hq : q < 4) (hy : y < 25) (hx : x < 32) {b : Bool} (h : bt (A2 (25 * q + y)) x = b) : hasB (sR S q) (y : Int) (x : Int) = b := by
  rw [← h]
  exact Bool.eq_iff_iff.mpr ((has_i (mk_p S q) (mk_24 hO hq) y x).trans (mk_q hY hq y hy x hx).symm)

set_option maxHeartbeats 4000000 in
set_option maxRecDepth 100000 in
theorem kX10_insert (l : Launch) (D : va_G) (k : Nat → ClassId) (L : List Nat) (f : Nat → va_E) (S : SA) (hO : aOK S) (a : Nat → Nat) (tw : Int) (A1 A2 A3 A4 A5 A6 A7 A8 A9 A10 : Nat → Int32) (hM : mRep k L f a tw ((sN S)) ((sC S : Int)) A1 A2 A3 A4 A5 A6 A7 A8 A9 A10) (hMT : 0 ≤ tw ∧ tw ≤ 3) (hY : mSync S A1 A2 A3 A4 A5 A6 A7) (z : Nat) (hz : (z : Int) ≤ sN S) (y : Int) (hy : 0 ≤ y ∧ y < 6) (hn2 : sN S < 24) (n0 sz : Nat) : Met l yX10_insert wsX10_insert ({ frames := 1, cells := 0, slots := 0, locals := 29 } : Room) (va_Pc [.ref (a 0), .int (zI ((z : Int))), .int (zI (y))] (pPre D (tyL k) n0 (va_pl L f) sz)) (va_Qi (fun r9 u => r9 = zI (sN S + 1) ∧ ∃ (F : Nat → va_E) (T K V : Nat → Int32), u = va_pl L F ∧ mRep k L F a 0 ((sN S + 1)) ((sC S : Int)) T K A3 A4 A5 A6 A7 A8 A9 V ∧ ∀ G : Nat → Nat → Int32, (∀ i, i < 4 → ∀ j : Nat, j < 24 → G i j = op2 (sR S i) (z : Int) 24 j) → mSync (insS S (z : Int) y G) T K A3 A4 A5 A6 A7) (pB D (va_pl L f) sz) (va_A (va_pl L f) sz)) 0 0 (va_A (va_pl L f) sz) := by
  refine Met.ofW (cc := cX10_insert) (maxL := 5) (ret := (some .int)) (by decide) rfl ?_
  intro p e s m args below meth c s₁ B hml hv
  obtain ⟨rfl, hsz, hn9, hP, hC, hD0⟩ := hv
  have hK := hC.1
  have hNW := hC.2.1
  have hx := B.exec
  have hb := B.bytes
  have hrt := B.returns
  have hts := atoms_spec (ws := wsX10_insert) B.pre
  have hown : s.vm.findClass RX10 = some m.cls := findClass_of_methodNamed B.named
  have hlocks := B.notSynchronized
  subst hsz
  obtain ⟨A, hAd⟩ : ∃ A, A = va_A (va_pl L f) s.heap.size := ⟨_, rfl⟩
  have hD := hD0.self (sz := s.heap.size)
  rw [← hAd] at hD
  have hA : ∀ q : Nat, s.heap.size ≤ q → A q := fun q h => by rw [hAd]; exact Or.inr h
  have hAn : ∀ q : Nat, A q → n0 ≤ q := fun q h => by
    rw [hAd] at h
    rcases h with ⟨k9, e9, hk9⟩ | h
    · exact hD0.2 k9 _ hk9
    · exact Nat.le_trans hn9 h
  have hS : va_S A s.heap s.heap [] := va_S.rf
  have hi_X10 : ∀ w ∈ u_ws RX10 TX10 13, w ∈ wsX10_insert := by decide +kernel
  have hw_0 := hts (.fieldLink RX10 52 "RegionryModel" "length" "I") (by decide +kernel)
  have hw_1 := hts (.fieldLink RX10 7 "RegionryModel" "text" "[I") (by decide +kernel)
  have hl := lv_entry ([.ref (a 0), .int (zI ((z : Int))), .int (zI (y))]) (n := 5) (Nat.le_of_ble_eq_true rfl)
  rw [lg_entry_eq]
  generalize (lg_sl ([.ref (a 0), .int (zI ((z : Int))), .int (zI (y))]) ++ List.replicate (5 - (lg_sl ([.ref (a 0), .int (zI ((z : Int))), .int (zI (y))])).length) Slot.unset).toArray = ls at hl ⊢
  have hl : lv_has ls 5 [(0, .ref (a 0)), (1, .int (zI ((z : Int)))), (2, .int (zI (y)))] := hl
  obtain ⟨Q, hQ⟩ : ∃ Q, Q = MQ below (va_Qi (fun r9 u => r9 = zI (sN S + 1) ∧ ∃ (F : Nat → va_E) (T K V : Nat → Int32), u = va_pl L F ∧ mRep k L F a 0 ((sN S + 1)) ((sC S : Int)) T K A3 A4 A5 A6 A7 A8 A9 V ∧ ∀ G : Nat → Nat → Int32, (∀ i, i < 4 → ∀ j : Nat, j < 24 → G i j = op2 (sR S i) (z : Int) 24 j) → mSync (insS S (z : Int) y G) T K A3 A4 A5 A6 A7) (pB D (va_pl L f) s.heap.size) (va_A (va_pl L f) s.heap.size)) ([.ref (a 0), .int (zI ((z : Int))), .int (zI (y))] : List Value).toArray s 0 0 (va_A (va_pl L f) s.heap.size) := ⟨_, rfl⟩
  rw [← hQ]
  have hMN := hO.1
  have hMC : 0 ≤ (sC S : Int) ∧ (sC S : Int) ≤ 30 := by have h8 := hO.2.2.2.1; omega
  refine lv_iload_n hx hb dX10_insert_0 rfl (lv_at hl 1 rfl) ?_
  refine zr_const hx hb dX10_insert_1 ?_
  refine lv_aload_n hx hb dX10_insert_2 rfl (lv_at hl 0 rfl) ?_
  refine pl_get (ci := 9) (v := .int (zI ((sN S)))) (C := RX10) (T := TX10) (N := 13) hx hb hts hi_X10 hown hK hP (hM.2.2.2.2.2.2.2.2.2.2.2.1 0 (by decide)) hM.1 rfl 2 (by decide) hw_0 (fun _ h9 => h9) rfl dX10_insert_3 ?_
  refine vp_callSi (va_Run.run (va_runS (As := [.int (zI ((z : Int))), .int (zI (0)), .int (zI ((sN S)))]) (rest := []) ⟨hx, hb, hml, hown, hts⟩ (kX10_in l D k L f ((z : Int)) (by omega) (0) (by omega) ((sN S)) (by omega)) (va_cwS 3 hts gX10_insert_X10_in rfl rfl rfl (by decide +kernel) ⟨Nat.le_of_ble_eq_true rfl, Nat.le_of_ble_eq_true rfl⟩) (rc_preS hC hP) rfl rfl hl.1 rfl (lv_room (Nat.le_of_ble_eq_true rfl)) dX10_insert_6 ⟨Nat.zero_le _, Nat.zero_le _⟩)) (fun r1 hr1 => ?_)
  subst hr1
  refine zr_ifb_ne (tgt := 16) hx hb dX10_insert_9 (by decide) (fun c2 => ?_) (fun c2 => ?_)
  · have hn_c2 := inB_i c2
    refine lv_iload_n hx hb dX10_insert_16 rfl (lv_at hl 2 rfl) ?_
    refine zr_const hx hb dX10_insert_17 ?_
    refine zr_const hx hb dX10_insert_18 ?_
    refine vp_callSi (va_Run.run (va_runS (As := [.int (zI (y)), .int (zI (0)), .int (zI (5))]) (rest := []) ⟨hx, hb, hml, hown, hts⟩ (kX10_in l D k L f (y) (by omega) (0) (by omega) (5) (by omega)) (va_cwS 3 hts gX10_insert_X10_in rfl rfl rfl (by decide +kernel) ⟨Nat.le_of_ble_eq_true rfl, Nat.le_of_ble_eq_true rfl⟩) (rc_preS hC hP) rfl rfl hl.1 rfl (lv_room (Nat.le_of_ble_eq_true rfl)) dX10_insert_19 ⟨Nat.zero_le _, Nat.zero_le _⟩)) (fun r3 hr3 => ?_)
    subst hr3
    refine zr_ifb_ne (tgt := 29) hx hb dX10_insert_22 (by decide) (fun c4 => ?_) (fun c4 => ?_)
    · have hn_c4 := inB_i c4
      refine lv_aload_n hx hb dX10_insert_29 rfl (lv_at hl 0 rfl) ?_
      refine pl_get (ci := 9) (v := .int (zI ((sN S)))) (C := RX10) (T := TX10) (N := 13) hx hb hts hi_X10 hown hK hP (hM.2.2.2.2.2.2.2.2.2.2.2.1 0 (by decide)) hM.1 rfl 2 (by decide) hw_0 (fun _ h9 => h9) rfl dX10_insert_30 ?_
      refine zr_bipush hx hb dX10_insert_33 (by decide) ?_
      refine zr_icmp_ne (tgt := 42) hx hb dX10_insert_35 (by decide) (by omega) (by omega) (fun c5 => ?_) (fun c5 => ?_)
      · refine zr_const hx hb dX10_insert_42 ?_
        refine lv_istore_n (lv' := [(3, .int (zI (0))), (0, .ref (a 0)), (1, .int (zI ((z : Int)))), (2, .int (zI (y)))]) hx hb dX10_insert_43 rfl hl (by decide) rfl (fun ls hl => ?_)
        refine lv_aload_n hx hb dX10_insert_44 rfl (lv_at hl 1 rfl) ?_
        refine lv_iload_n hx hb dX10_insert_45 rfl (lv_at hl 0 rfl) ?_
        refine pc_calli (va_runV (As := [.int (zI (0))]) (rest := []) ⟨hx, hb, hml, hown, hts⟩ (kX10_goesWell l D k L f a tw ((sN S)) ((sC S : Int)) A1 A2 A3 A4 A5 A6 A7 A8 A9 A10 hM (by omega) (by omega) (by omega) (0) (by omega) n0 _) (cwV 1 hts gX10_insert_X10_goesWell rfl rfl rfl (by decide +kernel) ⟨Nat.le_of_ble_eq_true rfl, Nat.le_of_ble_eq_true rfl⟩) (pc_preV hC hP (Nat.le_trans hn9 hS.1) hD hAn (pl_recv hK hP (hM.2.2.2.2.2.2.2.2.2.2.2.1 0 (by decide)) hM.1 (ci := 9) (q := (RX10, TX10, 13)) rfl)) rfl rfl hl.1 rfl (lv_room (Nat.le_of_ble_eq_true rfl)) dX10_insert_46 ⟨Nat.zero_le _, Nat.zero_le _⟩) hD hS hA (fun r6 ur6 H locs hr6 hP hD hS hzr6 => ?_)
        obtain ⟨hvr6, Fr6, hwr6, hMr6⟩ := hr6
        have hvr6 : r6 = bI (decide ((0 : Int) = 0)) := hvr6
        subst hvr6
        have hwr6 : ur6 = va_pl L Fr6 := hwr6
        subst hwr6
        refine zr_ifb_ne (tgt := 54) hx hb dX10_insert_49 (by decide) (fun c7 => ?_) (fun c7 => ?_)
        · refine lv_aload_n hx hb dX10_insert_54 rfl (lv_at hl 1 rfl) ?_
          refine pl_get (ci := 9) (v := .int (zI ((sN S)))) (C := RX10) (T := TX10) (N := 13) hx hb hts hi_X10 hown hK hP (hMr6.2.2.2.2.2.2.2.2.2.2.2.1 0 (by decide)) hMr6.1 rfl 2 (by decide) hw_0 (fun _ h9 => h9) rfl dX10_insert_55 ?_
          refine lv_istore (lv' := [(4, .int (zI ((sN S)))), (3, .int (zI (0))), (0, .ref (a 0)), (1, .int (zI ((z : Int)))), (2, .int (zI (y)))]) hx hb dX10_insert_58 hl (by decide) rfl (fun ls hl => ?_)
          have cut_60 : ∀ (n9 : Nat) (z4 : Int) (F60 : Nat → va_E) (T1 : Nat → Int32), (mRep k L F60 a 0 ((sN S)) ((sC S : Int)) T1 A2 A3 A4 A5 A6 A7 A8 A9 A10) → ((z : Int) ≤ z4 ∧ z4 ≤ sN S) → (T1 = shU A1 (z : Int) (sN S) z4) → z4 < (n9 : Int) → ∀ (H : Heap) (locs : List Loc), va_P D vwCl (va_pl L F60) H → va_D A (va_pl L F60) → va_S A s.heap H locs → ∀ (ls : Array Slot), lv_has ls 5 [(0, .ref (a 0)), (1, .int (zI ((z : Int)))), (2, .int (zI (y))), (4, .int (zI (z4)))] → W p l e (headSpec wsX10_insert ({ frames := 1, cells := 0, slots := 0, locals := 29 } : Room)).room s m ([.ref (a 0), .int (zI ((z : Int))), .int (zI (y))] : List Value).toArray below meth c H locs 0 0 Q (F0 m 60 ls []) := by
            intro n9
            induction n9 with
            | zero =>
              intro z4 F60 T1 hF60 hk hT hfu
              exact absurd hfu (by omega)
            | succ n9 ih_60 =>
              intro z4 F60 T1 hF60 hk hT hfu H locs hP hD hS ls hl
              refine lv_iload hx hb dX10_insert_60 (lv_at hl 3 rfl) ?_
              refine lv_iload_n hx hb dX10_insert_62 rfl (lv_at hl 1 rfl) ?_
              refine zr_icmp_le (tgt := 88) hx hb dX10_insert_63 (by decide) (by omega) (by omega) (fun c8 => ?_) (fun c8 => ?_)
              · refine lv_aload_n hx hb dX10_insert_88 rfl (lv_at hl 0 rfl) ?_
                refine pl_get (ci := 9) (v := .ref (a 1)) (C := RX10) (T := TX10) (N := 13) hx hb hts hi_X10 hown hK hP (hF60.2.2.2.2.2.2.2.2.2.2.2.1 0 (by decide)) hF60.1 rfl 1 (by decide) hw_1 (fun _ h9 => h9) rfl dX10_insert_89 ?_
                refine lv_iload_n hx hb dX10_insert_92 rfl (lv_at hl 1 rfl) ?_
                refine lv_iload_n hx hb dX10_insert_93 rfl (lv_at hl 2 rfl) ?_
                refine pl_iast (x := (zI (y))) hx hb hK hP hD hS (hF60.2.2.2.2.2.2.2.2.2.2.2.1 1 (by decide)) 0 hF60.2.1 rfl (z) (by omega) (by omega) (by decide) dX10_insert_94 (fun H locs hP hD hS => ?_)
                have hP : va_P D vwCl (va_pl L (va_up F60 (a 1) (.inl (k 0, 24, .inl (upd T1 (z) (zI (y))))))) H := hP
                have hD : va_D A (va_pl L (va_up F60 (a 1) (.inl (k 0, 24, .inl (upd T1 (z) (zI (y))))))) := hD
                refine lv_aload_n hx hb dX10_insert_95 rfl (lv_at hl 0 rfl) ?_
                refine lv_dup hx hb dX10_insert_96 rfl ?_
                refine pl_get (ci := 9) (v := .int (zI ((sN S)))) (C := RX10) (T := TX10) (N := 13) hx hb hts hi_X10 hown hK hP (hF60.2.2.2.2.2.2.2.2.2.2.2.1 0 (by decide)) ((va_up_ne _ _ (fun e9 => absurd (hM.2.2.2.2.2.2.2.2.2.2.2.2 0 1 (by decide) (by decide) e9) (by decide))).trans hF60.1) rfl 2 (by decide) hw_0 (fun _ h9 => h9) rfl dX10_insert_97 ?_
                refine zr_const hx hb dX10_insert_100 ?_
                refine zr_add hx hb dX10_insert_101 ?_
                refine pl_put (ci := 9) (v := .int (zI (((sN S)) + 1))) (ty := .int) (C := RX10) (T := TX10) (N := 13) hx hb hts hi_X10 tyX10 tyX10_ok nmX10 hown hK hP hD hS (hF60.2.2.2.2.2.2.2.2.2.2.2.1 0 (by decide)) ((va_up_ne _ _ (fun e9 => absurd (hM.2.2.2.2.2.2.2.2.2.2.2.2 0 1 (by decide) (by decide) e9) (by decide))).trans hF60.1) rfl 2 (by decide) hw_0 (fun _ h9 => h9) rfl (by decide +kernel) rfl rfl (Nat.le_of_ble_eq_true rfl) dX10_insert_102 (fun H locs hP hD hS => ?_)
                have hP : va_P D vwCl (va_pl L (va_up (va_up F60 (a 1) (.inl (k 0, 24, .inl (upd T1 (z) (zI (y)))))) (a 0) (.inr (9, [.int (zI (0)), .ref (a 1), .int (zI (((sN S)) + 1)), .ref (a 2), .int (zI ((sC S : Int))), .ref (a 3), .ref (a 4), .ref (a 5), .ref (a 6), .ref (a 7), .ref (a 8), .ref (a 9), .ref (a 10)])))) H := hP
                have hD : va_D A (va_pl L (va_up (va_up F60 (a 1) (.inl (k 0, 24, .inl (upd T1 (z) (zI (y)))))) (a 0) (.inr (9, [.int (zI (0)), .ref (a 1), .int (zI (((sN S)) + 1)), .ref (a 2), .int (zI ((sC S : Int))), .ref (a 3), .ref (a 4), .ref (a 5), .ref (a 6), .ref (a 7), .ref (a 8), .ref (a 9), .ref (a 10)])))) := hD
                refine zr_const hx hb dX10_insert_105 ?_
                refine lv_istore (lv' := [(4, .int (zI (0))), (0, .ref (a 0)), (1, .int (zI ((z : Int)))), (2, .int (zI (y)))]) hx hb dX10_insert_106 hl (by decide) rfl (fun ls hl => ?_)
                have cut_108 : ∀ (n9 : Nat) (x : Nat) (z5 : Int) (F108 : Nat → va_E) (K2 : Nat → Int32) (V : Nat → Int32), (mRep k L F108 a 0 ((sN S + 1)) ((sC S : Int)) ((upd T1 z (zI y))) K2 A3 A4 A5 A6 A7 A8 A9 V) → (x ≤ 4) → (z5 = x) → (kdI S A2 K2 (z : Int) ((z : Int) + 1) 1 x) → 4 - z5 < (n9 : Int) → ∀ (H : Heap) (locs : List Loc), va_P D vwCl (va_pl L F108) H → va_D A (va_pl L F108) → va_S A s.heap H locs → ∀ (ls : Array Slot), lv_has ls 5 [(0, .ref (a 0)), (1, .int (zI ((z : Int)))), (2, .int (zI (y))), (4, .int (zI (z5)))] → W p l e (headSpec wsX10_insert ({ frames := 1, cells := 0, slots := 0, locals := 29 } : Room)).room s m ([.ref (a 0), .int (zI ((z : Int))), .int (zI (y))] : List Value).toArray below meth c H locs 0 0 Q (F0 m 108 ls []) := by
                  intro n9
                  induction n9 with
                  | zero =>
                    intro x z5 F108 K2 V hF108 hk3 hz5 hKd hfu
                    exact absurd hfu (by omega)
                  | succ n9 ih_108 =>
                    intro x z5 F108 K2 V hF108 hk3 hz5 hKd hfu H locs hP hD hS ls hl
                    refine lv_iload hx hb dX10_insert_108 (lv_at hl 3 rfl) ?_
                    refine zr_const hx hb dX10_insert_110 ?_
                    refine zr_icmp_ge (tgt := 131) hx hb dX10_insert_111 (by decide) (by omega) (by omega) (fun c9 => ?_) (fun c9 => ?_)
                    · refine lv_aload_n hx hb dX10_insert_131 rfl (lv_at hl 0 rfl) ?_
                      refine pl_get (ci := 9) (v := .int (zI ((sN S + 1)))) (C := RX10) (T := TX10) (N := 13) hx hb hts hi_X10 hown hK hP (hF108.2.2.2.2.2.2.2.2.2.2.2.1 0 (by decide)) hF108.1 rfl 2 (by decide) hw_0 (fun _ h9 => h9) rfl dX10_insert_132 ?_
                      rw [hQ]
                      exact pc_iret hx hb hrt hP (by rw [← hAd]; exact hD) (by rw [← hAd]; exact hS) (⟨rfl, _, _, _, _, rfl, hF108, fun G hG => mSync.ins hO hY hz hn2 (hT.trans (by rw [show z4 = (z : Int) by omega])) (by obtain rfl : x = 4 := (by omega); exact hKd) hG⟩) dX10_insert_135 hlocks
                    · refine lv_aload_n hx hb dX10_insert_114 rfl (lv_at hl 0 rfl) ?_
                      refine lv_iload hx hb dX10_insert_115 (lv_at hl 3 rfl) ?_
                      refine lv_iload_n hx hb dX10_insert_117 rfl (lv_at hl 1 rfl) ?_
                      refine lv_iload_n hx hb dX10_insert_118 rfl (lv_at hl 1 rfl) ?_
                      refine zr_const hx hb dX10_insert_119 ?_
                      refine zr_add hx hb dX10_insert_120 ?_
                      refine zr_const hx hb dX10_insert_121 ?_
                      rw [show z5 = ((x : Nat) : Int) by omega]
                      refine pc_callv (va_runV (As := [.int (zI ((x : Int))), .int (zI ((z : Int))), .int (zI (((z : Int)) + 1)), .int (zI (1))]) (rest := []) ⟨hx, hb, hml, hown, hts⟩ (kX10_move l D k L F108 a 0 ((sN S + 1)) ((sC S : Int)) ((upd T1 z (zI y))) K2 A3 A4 A5 A6 A7 A8 A9 V hF108 (by omega) (by omega) (by omega) x (by omega) ((z : Int)) (((z : Int)) + 1) 1 (by omega) (by omega) (by omega) (sMk S x) (kindQ hY hKd (by omega)) (mk_24 hO (by omega)) (mv_ins hO (by omega) (by omega) (by omega)) n0 _) (cwV 4 hts gX10_insert_X10_move rfl rfl rfl (by decide +kernel) ⟨Nat.le_of_ble_eq_true rfl, Nat.le_of_ble_eq_true rfl⟩) (pc_preV hC hP (Nat.le_trans hn9 hS.1) hD hAn (pl_recv hK hP (hF108.2.2.2.2.2.2.2.2.2.2.2.1 0 (by decide)) hF108.1 (ci := 9) (q := (RX10, TX10, 13)) rfl)) rfl rfl hl.1 rfl (lv_room (Nat.le_of_ble_eq_true rfl)) dX10_insert_122 ⟨Nat.zero_le _, Nat.zero_le _⟩) hD hS hA (fun ur10 H locs hr10 hP hD hS hzr10 => ?_)
                      obtain ⟨Fr10, Rr10, Vr10, hwr10, hMr10, hIr10⟩ := hr10
                      have hwr10 : ur10 = va_pl L Fr10 := hwr10
                      subst hwr10
                      refine zr_iinc (k := 3) (lv' := [(4, .int (zI (z5 + 1))), (0, .ref (a 0)), (1, .int (zI ((z : Int)))), (2, .int (zI (y)))]) hx hb dX10_insert_125 hl rfl (by decide) rfl (fun ls hl => ?_)
                      refine lv_goto (tgt := 108) hx hb dX10_insert_128 (by decide) ?_
                      exact ih_108 (x + 1) (z5 + 1) (Fr10) (Rr10) (Vr10) (hMr10) (by omega) (by omega) (kdI_s hKd (by omega) hIr10) (by omega) _ _ hP hD hS _ (lv_sub hl [1, 2, 3, 0] rfl)
                exact cut_108 ((4 - (0) : Int).toNat + 1) (0) (0) (va_up (va_up F60 (a 1) (.inl (k 0, 24, .inl (upd T1 (z) (zI (y)))))) (a 0) (.inr (9, [.int (zI (0)), .ref (a 1), .int (zI (((sN S)) + 1)), .ref (a 2), .int (zI ((sC S : Int))), .ref (a 3), .ref (a 4), .ref (a 5), .ref (a 6), .ref (a 7), .ref (a 8), .ref (a 9), .ref (a 10)]))) (A2) (A10) ((mRep.o (mRep.s1 hF60 _) _ _ _)) (by omega) (by omega) (kdI_0 _ _ _ _ _) (by omega) _ _ hP hD hS _ (lv_sub hl [1, 2, 3, 0] rfl)
              · refine lv_aload_n hx hb dX10_insert_66 rfl (lv_at hl 0 rfl) ?_
                refine pl_get (ci := 9) (v := .ref (a 1)) (C := RX10) (T := TX10) (N := 13) hx hb hts hi_X10 hown hK hP (hF60.2.2.2.2.2.2.2.2.2.2.2.1 0 (by decide)) hF60.1 rfl 1 (by decide) hw_1 (fun _ h9 => h9) rfl dX10_insert_67 ?_
                refine lv_iload hx hb dX10_insert_70 (lv_at hl 3 rfl) ?_
                refine lv_aload_n hx hb dX10_insert_72 rfl (lv_at hl 0 rfl) ?_
                refine pl_get (ci := 9) (v := .ref (a 1)) (C := RX10) (T := TX10) (N := 13) hx hb hts hi_X10 hown hK hP (hF60.2.2.2.2.2.2.2.2.2.2.2.1 0 (by decide)) hF60.1 rfl 1 (by decide) hw_1 (fun _ h9 => h9) rfl dX10_insert_73 ?_
                refine lv_iload hx hb dX10_insert_76 (lv_at hl 3 rfl) ?_
                refine zr_const hx hb dX10_insert_78 ?_
                refine zr_sub hx hb dX10_insert_79 ?_
                refine pl_iald hx hb hK hP (hF60.2.2.2.2.2.2.2.2.2.2.2.1 1 (by decide)) 0 hF60.2.1 rfl ((z4 - 1).toNat) (by omega) (by omega) (by decide) dX10_insert_80 ?_
                refine pl_iast (x := (T1 ((z4 - 1).toNat))) hx hb hK hP hD hS (hF60.2.2.2.2.2.2.2.2.2.2.2.1 1 (by decide)) 0 hF60.2.1 rfl ((z4).toNat) (by omega) (by omega) (by decide) dX10_insert_81 (fun H locs hP hD hS => ?_)
                have hP : va_P D vwCl (va_pl L (va_up F60 (a 1) (.inl (k 0, 24, .inl (upd T1 ((z4).toNat) (T1 ((z4 - 1).toNat))))))) H := hP
                have hD : va_D A (va_pl L (va_up F60 (a 1) (.inl (k 0, 24, .inl (upd T1 ((z4).toNat) (T1 ((z4 - 1).toNat))))))) := hD
                refine zr_iinc (k := 3) (lv' := [(4, .int (zI (z4 + (-1)))), (0, .ref (a 0)), (1, .int (zI ((z : Int)))), (2, .int (zI (y)))]) hx hb dX10_insert_82 hl rfl (by decide) rfl (fun ls hl => ?_)
                refine lv_goto (tgt := 60) hx hb dX10_insert_85 (by decide) ?_
                exact ih_60 (z4 + (-1)) (va_up F60 (a 1) (.inl (k 0, 24, .inl (upd T1 ((z4).toNat) (T1 ((z4 - 1).toNat)))))) ((upd T1 ((z4).toNat) (T1 ((z4 - 1).toNat)))) ((mRep.s1 hF60 _)) (by omega) (by rw [hT, show z4 + (-1) = z4 - 1 by omega]; exact shU_s (by omega)) (by omega) _ _ hP hD hS _ (lv_sub hl [1, 2, 3, 0] rfl)
          exact cut_60 ((((sN S)) : Int).toNat + 1) ((sN S)) (Fr6) (A1) (hMr6) (by omega) ((shU_0 _ _ _).symm) (by omega) _ _ hP hD hS _ (lv_sub hl [2, 3, 4, 0] rfl)
        · exact absurd c7 (by decide)
      · exfalso; omega
    · have hn_c4 := inB_n c4
      exfalso; omega
  · have hn_c2 := inB_n c2
    exfalso; omega

set_option maxHeartbeats 4000000 in
set_option maxRecDepth 100000 in
theorem kX10_insert_n (l : Launch) (D : va_G) (k : Nat → ClassId) (L : List Nat) (f : Nat → va_E) (S : SA) (hO : aOK S) (a : Nat → Nat) (tw : Int) (A1 A2 A3 A4 A5 A6 A7 A8 A9 A10 : Nat → Int32) (hM : mRep k L f a tw ((sN S)) ((sC S : Int)) A1 A2 A3 A4 A5 A6 A7 A8 A9 A10) (hMT : 0 ≤ tw ∧ tw ≤ 3) (hY : mSync S A1 A2 A3 A4 A5 A6 A7) (z : Int) (hz : -2147483648 ≤ z ∧ z < 2147483648) (y : Int) (hy : -2147483648 ≤ y ∧ y < 2147483648) (kk : Int) (hE : (¬ (0 ≤ z ∧ z ≤ sN S) ∧ kk = 1) ∨ ((0 ≤ z ∧ z ≤ sN S) ∧ ¬ (0 ≤ y ∧ y < 6) ∧ kk = 2) ∨ ((0 ≤ z ∧ z ≤ sN S) ∧ (0 ≤ y ∧ y < 6) ∧ sN S = 24 ∧ kk = 3)) (n0 sz : Nat) : Met l yX10_insert wsX10_insert ({ frames := 1, cells := 0, slots := 0, locals := 22 } : Room) (va_Pc [.ref (a 0), .int (zI (z)), .int (zI (y))] (pPre D (tyL k) n0 (va_pl L f) sz)) (va_Qi (fun _ u => ∃ F : Nat → va_E, u = va_pl L F ∧ mRep k L F a kk ((sN S)) ((sC S : Int)) A1 A2 A3 A4 A5 A6 A7 A8 A9 A10) (pB D (va_pl L f) sz) (va_A (va_pl L f) sz)) 0 0 (va_A (va_pl L f) sz) := by
  refine Met.ofW (cc := cX10_insert) (maxL := 5) (ret := (some .int)) (by decide) rfl ?_
  intro p e s m args below meth c s₁ B hml hv
  obtain ⟨rfl, hsz, hn9, hP, hC, hD0⟩ := hv
  have hK := hC.1
  have hNW := hC.2.1
  have hx := B.exec
  have hb := B.bytes
  have hrt := B.returns
  have hts := atoms_spec (ws := wsX10_insert) B.pre
  have hown : s.vm.findClass RX10 = some m.cls := findClass_of_methodNamed B.named
  have hlocks := B.notSynchronized
  subst hsz
  obtain ⟨A, hAd⟩ : ∃ A, A = va_A (va_pl L f) s.heap.size := ⟨_, rfl⟩
  have hD := hD0.self (sz := s.heap.size)
  rw [← hAd] at hD
  have hA : ∀ q : Nat, s.heap.size ≤ q → A q := fun q h => by rw [hAd]; exact Or.inr h
  have hAn : ∀ q : Nat, A q → n0 ≤ q := fun q h => by
    rw [hAd] at h
    rcases h with ⟨k9, e9, hk9⟩ | h
    · exact hD0.2 k9 _ hk9
    · exact Nat.le_trans hn9 h
  have hS : va_S A s.heap s.heap [] := va_S.rf
  have hi_X10 : ∀ w ∈ u_ws RX10 TX10 13, w ∈ wsX10_insert := by decide +kernel
  have hw_0 := hts (.fieldLink RX10 52 "RegionryModel" "length" "I") (by decide +kernel)
  have hl := lv_entry ([.ref (a 0), .int (zI (z)), .int (zI (y))]) (n := 5) (Nat.le_of_ble_eq_true rfl)
  rw [lg_entry_eq]
  generalize (lg_sl ([.ref (a 0), .int (zI (z)), .int (zI (y))]) ++ List.replicate (5 - (lg_sl ([.ref (a 0), .int (zI (z)), .int (zI (y))])).length) Slot.unset).toArray = ls at hl ⊢
  have hl : lv_has ls 5 [(0, .ref (a 0)), (1, .int (zI (z))), (2, .int (zI (y)))] := hl
  obtain ⟨Q, hQ⟩ : ∃ Q, Q = MQ below (va_Qi (fun _ u => ∃ F : Nat → va_E, u = va_pl L F ∧ mRep k L F a kk ((sN S)) ((sC S : Int)) A1 A2 A3 A4 A5 A6 A7 A8 A9 A10) (pB D (va_pl L f) s.heap.size) (va_A (va_pl L f) s.heap.size)) ([.ref (a 0), .int (zI (z)), .int (zI (y))] : List Value).toArray s 0 0 (va_A (va_pl L f) s.heap.size) := ⟨_, rfl⟩
  rw [← hQ]
  have hMN := hO.1
  have hMC : 0 ≤ (sC S : Int) ∧ (sC S : Int) ≤ 30 := by have h8 := hO.2.2.2.1; omega
  refine lv_iload_n hx hb dX10_insert_0 rfl (lv_at hl 1 rfl) ?_
  refine zr_const hx hb dX10_insert_1 ?_
  refine lv_aload_n hx hb dX10_insert_2 rfl (lv_at hl 0 rfl) ?_
  refine pl_get (ci := 9) (v := .int (zI ((sN S)))) (C := RX10) (T := TX10) (N := 13) hx hb hts hi_X10 hown hK hP (hM.2.2.2.2.2.2.2.2.2.2.2.1 0 (by decide)) hM.1 rfl 2 (by decide) hw_0 (fun _ h9 => h9) rfl dX10_insert_3 ?_
  refine vp_callSi (va_Run.run (va_runS (As := [.int (zI (z)), .int (zI (0)), .int (zI ((sN S)))]) (rest := []) ⟨hx, hb, hml, hown, hts⟩ (kX10_in l D k L f (z) (by omega) (0) (by omega) ((sN S)) (by omega)) (va_cwS 3 hts gX10_insert_X10_in rfl rfl rfl (by decide +kernel) ⟨Nat.le_of_ble_eq_true rfl, Nat.le_of_ble_eq_true rfl⟩) (rc_preS hC hP) rfl rfl hl.1 rfl (lv_room (Nat.le_of_ble_eq_true rfl)) dX10_insert_6 ⟨Nat.zero_le _, Nat.zero_le _⟩)) (fun r1 hr1 => ?_)
  subst hr1
  refine zr_ifb_ne (tgt := 16) hx hb dX10_insert_9 (by decide) (fun c2 => ?_) (fun c2 => ?_)
  · have hn_c2 := inB_i c2
    refine lv_iload_n hx hb dX10_insert_16 rfl (lv_at hl 2 rfl) ?_
    refine zr_const hx hb dX10_insert_17 ?_
    refine zr_const hx hb dX10_insert_18 ?_
    refine vp_callSi (va_Run.run (va_runS (As := [.int (zI (y)), .int (zI (0)), .int (zI (5))]) (rest := []) ⟨hx, hb, hml, hown, hts⟩ (kX10_in l D k L f (y) (by omega) (0) (by omega) (5) (by omega)) (va_cwS 3 hts gX10_insert_X10_in rfl rfl rfl (by decide +kernel) ⟨Nat.le_of_ble_eq_true rfl, Nat.le_of_ble_eq_true rfl⟩) (rc_preS hC hP) rfl rfl hl.1 rfl (lv_room (Nat.le_of_ble_eq_true rfl)) dX10_insert_19 ⟨Nat.zero_le _, Nat.zero_le _⟩)) (fun r3 hr3 => ?_)
    subst hr3
    refine zr_ifb_ne (tgt := 29) hx hb dX10_insert_22 (by decide) (fun c4 => ?_) (fun c4 => ?_)
    · have hn_c4 := inB_i c4
      refine lv_aload_n hx hb dX10_insert_29 rfl (lv_at hl 0 rfl) ?_
      refine pl_get (ci := 9) (v := .int (zI ((sN S)))) (C := RX10) (T := TX10) (N := 13) hx hb hts hi_X10 hown hK hP (hM.2.2.2.2.2.2.2.2.2.2.2.1 0 (by decide)) hM.1 rfl 2 (by decide) hw_0 (fun _ h9 => h9) rfl dX10_insert_30 ?_
      refine zr_bipush hx hb dX10_insert_33 (by decide) ?_
      refine zr_icmp_ne (tgt := 42) hx hb dX10_insert_35 (by decide) (by omega) (by omega) (fun c5 => ?_) (fun c5 => ?_)
      · refine zr_const hx hb dX10_insert_42 ?_
        refine lv_istore_n (lv' := [(3, .int (zI (0))), (0, .ref (a 0)), (1, .int (zI (z))), (2, .int (zI (y)))]) hx hb dX10_insert_43 rfl hl (by decide) rfl (fun ls hl => ?_)
        refine lv_aload_n hx hb dX10_insert_44 rfl (lv_at hl 1 rfl) ?_
        refine lv_iload_n hx hb dX10_insert_45 rfl (lv_at hl 0 rfl) ?_
        refine pc_calli (va_runV (As := [.int (zI (0))]) (rest := []) ⟨hx, hb, hml, hown, hts⟩ (kX10_goesWell l D k L f a tw ((sN S)) ((sC S : Int)) A1 A2 A3 A4 A5 A6 A7 A8 A9 A10 hM (by omega) (by omega) (by omega) (0) (by omega) n0 _) (cwV 1 hts gX10_insert_X10_goesWell rfl rfl rfl (by decide +kernel) ⟨Nat.le_of_ble_eq_true rfl, Nat.le_of_ble_eq_true rfl⟩) (pc_preV hC hP (Nat.le_trans hn9 hS.1) hD hAn (pl_recv hK hP (hM.2.2.2.2.2.2.2.2.2.2.2.1 0 (by decide)) hM.1 (ci := 9) (q := (RX10, TX10, 13)) rfl)) rfl rfl hl.1 rfl (lv_room (Nat.le_of_ble_eq_true rfl)) dX10_insert_46 ⟨Nat.zero_le _, Nat.zero_le _⟩) hD hS hA (fun r6 ur6 H locs hr6 hP hD hS hzr6 => ?_)
        obtain ⟨hvr6, Fr6, hwr6, hMr6⟩ := hr6
        have hvr6 : r6 = bI (decide ((0 : Int) = 0)) := hvr6
        subst hvr6
        have hwr6 : ur6 = va_pl L Fr6 := hwr6
        subst hwr6
        refine zr_ifb_ne (tgt := 54) hx hb dX10_insert_49 (by decide) (fun c7 => ?_) (fun c7 => ?_)
        · exfalso; omega
        · exact absurd c7 (by decide)
      · refine zr_const hx hb dX10_insert_38 ?_
        refine lv_goto (tgt := 43) hx hb dX10_insert_39 (by decide) ?_
        refine lv_istore_n (lv' := [(3, .int (zI (3))), (0, .ref (a 0)), (1, .int (zI (z))), (2, .int (zI (y)))]) hx hb dX10_insert_43 rfl hl (by decide) rfl (fun ls hl => ?_)
        refine lv_aload_n hx hb dX10_insert_44 rfl (lv_at hl 1 rfl) ?_
        refine lv_iload_n hx hb dX10_insert_45 rfl (lv_at hl 0 rfl) ?_
        refine pc_calli (va_runV (As := [.int (zI (3))]) (rest := []) ⟨hx, hb, hml, hown, hts⟩ (kX10_goesWell l D k L f a tw ((sN S)) ((sC S : Int)) A1 A2 A3 A4 A5 A6 A7 A8 A9 A10 hM (by omega) (by omega) (by omega) (3) (by omega) n0 _) (cwV 1 hts gX10_insert_X10_goesWell rfl rfl rfl (by decide +kernel) ⟨Nat.le_of_ble_eq_true rfl, Nat.le_of_ble_eq_true rfl⟩) (pc_preV hC hP (Nat.le_trans hn9 hS.1) hD hAn (pl_recv hK hP (hM.2.2.2.2.2.2.2.2.2.2.2.1 0 (by decide)) hM.1 (ci := 9) (q := (RX10, TX10, 13)) rfl)) rfl rfl hl.1 rfl (lv_room (Nat.le_of_ble_eq_true rfl)) dX10_insert_46 ⟨Nat.zero_le _, Nat.zero_le _⟩) hD hS hA (fun r8 ur8 H locs hr8 hP hD hS hzr8 => ?_)
        obtain ⟨hvr8, Fr8, hwr8, hMr8⟩ := hr8
        have hvr8 : r8 = bI (decide ((3 : Int) = 0)) := hvr8
        subst hvr8
        have hwr8 : ur8 = va_pl L Fr8 := hwr8
        subst hwr8
        refine zr_ifb_ne (tgt := 54) hx hb dX10_insert_49 (by decide) (fun c9 => ?_) (fun c9 => ?_)
        · exact absurd c9 (by decide)
        · refine zr_const hx hb dX10_insert_52 ?_
          rw [hQ]
          exact pc_iret hx hb hrt hP (by rw [← hAd]; exact hD) (by rw [← hAd]; exact hS) (⟨_, rfl, by rw [show kk = 3 by omega]; exact hMr8⟩) dX10_insert_53 hlocks
    · have hn_c4 := inB_n c4
      refine zr_const hx hb dX10_insert_25 ?_
      refine lv_goto (tgt := 43) hx hb dX10_insert_26 (by decide) ?_
      refine lv_istore_n (lv' := [(3, .int (zI (2))), (0, .ref (a 0)), (1, .int (zI (z))), (2, .int (zI (y)))]) hx hb dX10_insert_43 rfl hl (by decide) rfl (fun ls hl => ?_)
      refine lv_aload_n hx hb dX10_insert_44 rfl (lv_at hl 1 rfl) ?_
      refine lv_iload_n hx hb dX10_insert_45 rfl (lv_at hl 0 rfl) ?_
      refine pc_calli (va_runV (As := [.int (zI (2))]) (rest := []) ⟨hx, hb, hml, hown, hts⟩ (kX10_goesWell l D k L f a tw ((sN S)) ((sC S : Int)) A1 A2 A3 A4 A5 A6 A7 A8 A9 A10 hM (by omega) (by omega) (by omega) (2) (by omega) n0 _) (cwV 1 hts gX10_insert_X10_goesWell rfl rfl rfl (by decide +kernel) ⟨Nat.le_of_ble_eq_true rfl, Nat.le_of_ble_eq_true rfl⟩) (pc_preV hC hP (Nat.le_trans hn9 hS.1) hD hAn (pl_recv hK hP (hM.2.2.2.2.2.2.2.2.2.2.2.1 0 (by decide)) hM.1 (ci := 9) (q := (RX10, TX10, 13)) rfl)) rfl rfl hl.1 rfl (lv_room (Nat.le_of_ble_eq_true rfl)) dX10_insert_46 ⟨Nat.zero_le _, Nat.zero_le _⟩) hD hS hA (fun r10 ur10 H locs hr10 hP hD hS hzr10 => ?_)
      obtain ⟨hvr10, Fr10, hwr10, hMr10⟩ := hr10
      have hvr10 : r10 = bI (decide ((2 : Int) = 0)) := hvr10
      subst hvr10
      have hwr10 : ur10 = va_pl L Fr10 := hwr10
      subst hwr10
      refine zr_ifb_ne (tgt := 54) hx hb dX10_insert_49 (by decide) (fun c11 => ?_) (fun c11 => ?_)
      · exact absurd c11 (by decide)
      · refine zr_const hx hb dX10_insert_52 ?_
        rw [hQ]
        exact pc_iret hx hb hrt hP (by rw [← hAd]; exact hD) (by rw [← hAd]; exact hS) (⟨_, rfl, by rw [show kk = 2 by omega]; exact hMr10⟩) dX10_insert_53 hlocks
  · have hn_c2 := inB_n c2
    refine zr_const hx hb dX10_insert_12 ?_
    refine lv_goto (tgt := 43) hx hb dX10_insert_13 (by decide) ?_
    refine lv_istore_n (lv' := [(3, .int (zI (1))), (0, .ref (a 0)), (1, .int (zI (z))), (2, .int (zI (y)))]) hx hb dX10_insert_43 rfl hl (by decide) rfl (fun ls hl => ?_)
    refine lv_aload_n hx hb dX10_insert_44 rfl (lv_at hl 1 rfl) ?_
    refine lv_iload_n hx hb dX10_insert_45 rfl (lv_at hl 0 rfl) ?_
    refine pc_calli (va_runV (As := [.int (zI (1))]) (rest := []) ⟨hx, hb, hml, hown, hts⟩ (kX10_goesWell l D k L f a tw ((sN S)) ((sC S : Int)) A1 A2 A3 A4 A5 A6 A7 A8 A9 A10 hM (by omega) (by omega) (by omega) (1) (by omega) n0 _) (cwV 1 hts gX10_insert_X10_goesWell rfl rfl rfl (by decide +kernel) ⟨Nat.le_of_ble_eq_true rfl, Nat.le_of_ble_eq_true rfl⟩) (pc_preV hC hP (Nat.le_trans hn9 hS.1) hD hAn (pl_recv hK hP (hM.2.2.2.2.2.2.2.2.2.2.2.1 0 (by decide)) hM.1 (ci := 9) (q := (RX10, TX10, 13)) rfl)) rfl rfl hl.1 rfl (lv_room (Nat.le_of_ble_eq_true rfl)) dX10_insert_46 ⟨Nat.zero_le _, Nat.zero_le _⟩) hD hS hA (fun r12 ur12 H locs hr12 hP hD hS hzr12 => ?_)
    obtain ⟨hvr12, Fr12, hwr12, hMr12⟩ := hr12
    have hvr12 : r12 = bI (decide ((1 : Int) = 0)) := hvr12
    subst hvr12
    have hwr12 : ur12 = va_pl L Fr12 := hwr12
    subst hwr12
    refine zr_ifb_ne (tgt := 54) hx hb dX10_insert_49 (by decide) (fun c13 => ?_) (fun c13 => ?_)
    · exact absurd c13 (by decide)
    · refine zr_const hx hb dX10_insert_52 ?_
      rw [hQ]
      exact pc_iret hx hb hrt hP (by rw [← hAd]; exact hD) (by rw [← hAd]; exact hS) (⟨_, rfl, by rw [show kk = 1 by omega]; exact hMr12⟩) dX10_insert_53 hlocks

set_option maxHeartbeats 4000000 in
set_option maxRecDepth 100000 in
theorem kX10_remove (l : Launch) (D : va_G) (k : Nat → ClassId) (L : List Nat) (f : Nat → va_E) (S : SA) (hO : aOK S) (a : Nat → Nat) (tw : Int) (A1 A2 A3 A4 A5 A6 A7 A8 A9 A10 : Nat → Int32) (hM : mRep k L f a tw ((sN S)) ((sC S : Int)) A1 A2 A3 A4 A5 A6 A7 A8 A9 A10) (hMT : 0 ≤ tw ∧ tw ≤ 3) (hY : mSync S A1 A2 A3 A4 A5 A6 A7) (z : Nat) (hz : (z : Int) < sN S) (n0 sz : Nat) : Met l yX10_remove wsX10_remove ({ frames := 1, cells := 0, slots := 0, locals := 29 } : Room) (va_Pc [.ref (a 0), .int (zI ((z : Int)))] (pPre D (tyL k) n0 (va_pl L f) sz)) (va_Qi (fun r9 u => r9 = sT S z ∧ ∃ (F : Nat → va_E) (T K V : Nat → Int32), u = va_pl L F ∧ mRep k L F a 0 ((sN S - 1)) ((sC S : Int)) T K A3 A4 A5 A6 A7 A8 A9 V ∧ mSync (remS S (z : Int) (fun i => fa_fill (clF (sR S i) (z : Int)) (sR S i) 24)) T K A3 A4 A5 A6 A7) (pB D (va_pl L f) sz) (va_A (va_pl L f) sz)) 0 0 (va_A (va_pl L f) sz) := by
  refine Met.ofW (cc := cX10_remove) (maxL := 4) (ret := (some .int)) (by decide) rfl ?_
  intro p e s m args below meth c s₁ B hml hv
  obtain ⟨rfl, hsz, hn9, hP, hC, hD0⟩ := hv
  have hK := hC.1
  have hNW := hC.2.1
  have hx := B.exec
  have hb := B.bytes
  have hrt := B.returns
  have hts := atoms_spec (ws := wsX10_remove) B.pre
  have hown : s.vm.findClass RX10 = some m.cls := findClass_of_methodNamed B.named
  have hlocks := B.notSynchronized
  subst hsz
  obtain ⟨A, hAd⟩ : ∃ A, A = va_A (va_pl L f) s.heap.size := ⟨_, rfl⟩
  have hD := hD0.self (sz := s.heap.size)
  rw [← hAd] at hD
  have hA : ∀ q : Nat, s.heap.size ≤ q → A q := fun q h => by rw [hAd]; exact Or.inr h
  have hAn : ∀ q : Nat, A q → n0 ≤ q := fun q h => by
    rw [hAd] at h
    rcases h with ⟨k9, e9, hk9⟩ | h
    · exact hD0.2 k9 _ hk9
    · exact Nat.le_trans hn9 h
  have hS : va_S A s.heap s.heap [] := va_S.rf
  have hi_X10 : ∀ w ∈ u_ws RX10 TX10 13, w ∈ wsX10_remove := by decide +kernel
  have hw_0 := hts (.fieldLink RX10 52 "RegionryModel" "length" "I") (by decide +kernel)
  have hw_1 := hts (.fieldLink RX10 7 "RegionryModel" "text" "[I") (by decide +kernel)
  have hl := lv_entry ([.ref (a 0), .int (zI ((z : Int)))]) (n := 4) (Nat.le_of_ble_eq_true rfl)
  rw [lg_entry_eq]
  generalize (lg_sl ([.ref (a 0), .int (zI ((z : Int)))]) ++ List.replicate (4 - (lg_sl ([.ref (a 0), .int (zI ((z : Int)))])).length) Slot.unset).toArray = ls at hl ⊢
  have hl : lv_has ls 4 [(0, .ref (a 0)), (1, .int (zI ((z : Int))))] := hl
  obtain ⟨Q, hQ⟩ : ∃ Q, Q = MQ below (va_Qi (fun r9 u => r9 = sT S z ∧ ∃ (F : Nat → va_E) (T K V : Nat → Int32), u = va_pl L F ∧ mRep k L F a 0 ((sN S - 1)) ((sC S : Int)) T K A3 A4 A5 A6 A7 A8 A9 V ∧ mSync (remS S (z : Int) (fun i => fa_fill (clF (sR S i) (z : Int)) (sR S i) 24)) T K A3 A4 A5 A6 A7) (pB D (va_pl L f) s.heap.size) (va_A (va_pl L f) s.heap.size)) ([.ref (a 0), .int (zI ((z : Int)))] : List Value).toArray s 0 0 (va_A (va_pl L f) s.heap.size) := ⟨_, rfl⟩
  rw [← hQ]
  have hMN := hO.1
  have hMC : 0 ≤ (sC S : Int) ∧ (sC S : Int) ≤ 30 := by have h8 := hO.2.2.2.1; omega
  refine lv_aload_n hx hb dX10_remove_0 rfl (lv_at hl 0 rfl) ?_
  refine lv_iload_n hx hb dX10_remove_1 rfl (lv_at hl 1 rfl) ?_
  refine zr_const hx hb dX10_remove_2 ?_
  refine lv_aload_n hx hb dX10_remove_3 rfl (lv_at hl 0 rfl) ?_
  refine pl_get (ci := 9) (v := .int (zI ((sN S)))) (C := RX10) (T := TX10) (N := 13) hx hb hts hi_X10 hown hK hP (hM.2.2.2.2.2.2.2.2.2.2.2.1 0 (by decide)) hM.1 rfl 2 (by decide) hw_0 (fun _ h9 => h9) rfl dX10_remove_4 ?_
  refine zr_const hx hb dX10_remove_7 ?_
  refine zr_sub hx hb dX10_remove_8 ?_
  refine vp_callSi (va_Run.run (va_runS (As := [.int (zI ((z : Int))), .int (zI (0)), .int (zI (((sN S)) - 1))]) (rest := [.ref (a 0)]) ⟨hx, hb, hml, hown, hts⟩ (kX10_in l D k L f ((z : Int)) (by omega) (0) (by omega) (((sN S)) - 1) (by omega)) (va_cwS 3 hts gX10_remove_X10_in rfl rfl rfl (by decide +kernel) ⟨Nat.le_of_ble_eq_true rfl, Nat.le_of_ble_eq_true rfl⟩) (rc_preS hC hP) rfl rfl hl.1 rfl (lv_room (Nat.le_of_ble_eq_true rfl)) dX10_remove_9 ⟨Nat.zero_le _, Nat.zero_le _⟩)) (fun r1 hr1 => ?_)
  subst hr1
  refine zr_ifb_eq (tgt := 19) hx hb dX10_remove_12 (by decide) (fun c2 => ?_) (fun c2 => ?_)
  · have hn_c2 := inB_n c2
    exfalso; omega
  · have hn_c2 := inB_i c2
    refine zr_const hx hb dX10_remove_15 ?_
    refine lv_goto (tgt := 20) hx hb dX10_remove_16 (by decide) ?_
    refine pc_calli (va_runV (As := [.int (zI (0))]) (rest := []) ⟨hx, hb, hml, hown, hts⟩ (kX10_goesWell l D k L f a tw ((sN S)) ((sC S : Int)) A1 A2 A3 A4 A5 A6 A7 A8 A9 A10 hM (by omega) (by omega) (by omega) (0) (by omega) n0 _) (cwV 1 hts gX10_remove_X10_goesWell rfl rfl rfl (by decide +kernel) ⟨Nat.le_of_ble_eq_true rfl, Nat.le_of_ble_eq_true rfl⟩) (pc_preV hC hP (Nat.le_trans hn9 hS.1) hD hAn (pl_recv hK hP (hM.2.2.2.2.2.2.2.2.2.2.2.1 0 (by decide)) hM.1 (ci := 9) (q := (RX10, TX10, 13)) rfl)) rfl rfl hl.1 rfl (lv_room (Nat.le_of_ble_eq_true rfl)) dX10_remove_20 ⟨Nat.zero_le _, Nat.zero_le _⟩) hD hS hA (fun r3 ur3 H locs hr3 hP hD hS hzr3 => ?_)
    obtain ⟨hvr3, Fr3, hwr3, hMr3⟩ := hr3
    have hvr3 : r3 = bI (decide ((0 : Int) = 0)) := hvr3
    subst hvr3
    have hwr3 : ur3 = va_pl L Fr3 := hwr3
    subst hwr3
    refine zr_ifb_ne (tgt := 28) hx hb dX10_remove_23 (by decide) (fun c4 => ?_) (fun c4 => ?_)
    · refine lv_aload_n hx hb dX10_remove_28 rfl (lv_at hl 0 rfl) ?_
      refine pl_get (ci := 9) (v := .ref (a 1)) (C := RX10) (T := TX10) (N := 13) hx hb hts hi_X10 hown hK hP (hMr3.2.2.2.2.2.2.2.2.2.2.2.1 0 (by decide)) hMr3.1 rfl 1 (by decide) hw_1 (fun _ h9 => h9) rfl dX10_remove_29 ?_
      refine lv_iload_n hx hb dX10_remove_32 rfl (lv_at hl 1 rfl) ?_
      refine pl_iald hx hb hK hP (hMr3.2.2.2.2.2.2.2.2.2.2.2.1 1 (by decide)) 0 hMr3.2.1 rfl (z) (by omega) (by omega) (by decide) dX10_remove_33 ?_
      refine lv_istore_n (lv' := [(2, .int (A1 (z))), (0, .ref (a 0)), (1, .int (zI ((z : Int))))]) hx hb dX10_remove_34 rfl hl (by decide) rfl (fun ls hl => ?_)
      refine lv_aload_n hx hb dX10_remove_35 rfl (lv_at hl 1 rfl) ?_
      refine lv_dup hx hb dX10_remove_36 rfl ?_
      refine pl_get (ci := 9) (v := .int (zI ((sN S)))) (C := RX10) (T := TX10) (N := 13) hx hb hts hi_X10 hown hK hP (hMr3.2.2.2.2.2.2.2.2.2.2.2.1 0 (by decide)) hMr3.1 rfl 2 (by decide) hw_0 (fun _ h9 => h9) rfl dX10_remove_37 ?_
      refine zr_const hx hb dX10_remove_40 ?_
      refine zr_sub hx hb dX10_remove_41 ?_
      refine pl_put (ci := 9) (v := .int (zI (((sN S)) - 1))) (ty := .int) (C := RX10) (T := TX10) (N := 13) hx hb hts hi_X10 tyX10 tyX10_ok nmX10 hown hK hP hD hS (hMr3.2.2.2.2.2.2.2.2.2.2.2.1 0 (by decide)) hMr3.1 rfl 2 (by decide) hw_0 (fun _ h9 => h9) rfl (by decide +kernel) rfl rfl (Nat.le_of_ble_eq_true rfl) dX10_remove_42 (fun H locs hP hD hS => ?_)
      have hP : va_P D vwCl (va_pl L (va_up Fr3 (a 0) (.inr (9, [.int (zI (0)), .ref (a 1), .int (zI (((sN S)) - 1)), .ref (a 2), .int (zI ((sC S : Int))), .ref (a 3), .ref (a 4), .ref (a 5), .ref (a 6), .ref (a 7), .ref (a 8), .ref (a 9), .ref (a 10)])))) H := hP
      have hD : va_D A (va_pl L (va_up Fr3 (a 0) (.inr (9, [.int (zI (0)), .ref (a 1), .int (zI (((sN S)) - 1)), .ref (a 2), .int (zI ((sC S : Int))), .ref (a 3), .ref (a 4), .ref (a 5), .ref (a 6), .ref (a 7), .ref (a 8), .ref (a 9), .ref (a 10)])))) := hD
      refine lv_iload_n hx hb dX10_remove_45 rfl (lv_at hl 2 rfl) ?_
      refine lv_istore_n (lv' := [(3, .int (zI ((z : Int)))), (2, .int (A1 (z))), (0, .ref (a 0)), (1, .int (zI ((z : Int))))]) hx hb dX10_remove_46 rfl hl (by decide) rfl (fun ls hl => ?_)
      have cut_47 : ∀ (n9 : Nat) (z3 : Int) (F47 : Nat → va_E) (T1 : Nat → Int32), (mRep k L F47 a 0 ((sN S - 1)) ((sC S : Int)) T1 A2 A3 A4 A5 A6 A7 A8 A9 A10) → ((z : Int) ≤ z3 ∧ z3 ≤ sN S - 1) → (T1 = shD A1 (z : Int) z3) → sN S - z3 < (n9 : Int) → ∀ (H : Heap) (locs : List Loc), va_P D vwCl (va_pl L F47) H → va_D A (va_pl L F47) → va_S A s.heap H locs → ∀ (ls : Array Slot), lv_has ls 4 [(0, .ref (a 0)), (1, .int (zI ((z : Int)))), (2, .int (A1 z)), (3, .int (zI (z3)))] → W p l e (headSpec wsX10_remove ({ frames := 1, cells := 0, slots := 0, locals := 29 } : Room)).room s m ([.ref (a 0), .int (zI ((z : Int)))] : List Value).toArray below meth c H locs 0 0 Q (F0 m 47 ls []) := by
        intro n9
        induction n9 with
        | zero =>
          intro z3 F47 T1 hF47 hk hT hfu
          exact absurd hfu (by omega)
        | succ n9 ih_47 =>
          intro z3 F47 T1 hF47 hk hT hfu H locs hP hD hS ls hl
          refine lv_iload_n hx hb dX10_remove_47 rfl (lv_at hl 3 rfl) ?_
          refine lv_aload_n hx hb dX10_remove_48 rfl (lv_at hl 0 rfl) ?_
          refine pl_get (ci := 9) (v := .int (zI ((sN S - 1)))) (C := RX10) (T := TX10) (N := 13) hx hb hts hi_X10 hown hK hP (hF47.2.2.2.2.2.2.2.2.2.2.2.1 0 (by decide)) hF47.1 rfl 2 (by decide) hw_0 (fun _ h9 => h9) rfl dX10_remove_49 ?_
          refine zr_icmp_ge (tgt := 75) hx hb dX10_remove_52 (by decide) (by omega) (by omega) (fun c5 => ?_) (fun c5 => ?_)
          · refine zr_const hx hb dX10_remove_75 ?_
            refine lv_istore_n (lv' := [(3, .int (zI (0))), (0, .ref (a 0)), (1, .int (zI ((z : Int)))), (2, .int (A1 z))]) hx hb dX10_remove_76 rfl hl (by decide) rfl (fun ls hl => ?_)
            have cut_77 : ∀ (n9 : Nat) (x : Nat) (z5 : Int) (F77 : Nat → va_E) (K2 : Nat → Int32) (V : Nat → Int32), (mRep k L F77 a 0 ((sN S - 1)) ((sC S : Int)) T1 K2 A3 A4 A5 A6 A7 A8 A9 V) → (x ≤ 4) → (z5 = x) → (kdI S A2 K2 ((z : Int) + 1) ((z : Int) + 1) (-1) x) → 4 - z5 < (n9 : Int) → ∀ (H : Heap) (locs : List Loc), va_P D vwCl (va_pl L F77) H → va_D A (va_pl L F77) → va_S A s.heap H locs → ∀ (ls : Array Slot), lv_has ls 4 [(0, .ref (a 0)), (1, .int (zI ((z : Int)))), (2, .int (A1 z)), (3, .int (zI (z5)))] → W p l e (headSpec wsX10_remove ({ frames := 1, cells := 0, slots := 0, locals := 29 } : Room)).room s m ([.ref (a 0), .int (zI ((z : Int)))] : List Value).toArray below meth c H locs 0 0 Q (F0 m 77 ls []) := by
              intro n9
              induction n9 with
              | zero =>
                intro x z5 F77 K2 V hF77 hk3 hz5 hKd hfu
                exact absurd hfu (by omega)
              | succ n9 ih_77 =>
                intro x z5 F77 K2 V hF77 hk3 hz5 hKd hfu H locs hP hD hS ls hl
                refine lv_iload_n hx hb dX10_remove_77 rfl (lv_at hl 3 rfl) ?_
                refine zr_const hx hb dX10_remove_78 ?_
                refine zr_icmp_ge (tgt := 100) hx hb dX10_remove_79 (by decide) (by omega) (by omega) (fun c6 => ?_) (fun c6 => ?_)
                · refine lv_iload_n hx hb dX10_remove_100 rfl (lv_at hl 2 rfl) ?_
                  rw [hQ]
                  exact pc_iret hx hb hrt hP (by rw [← hAd]; exact hD) (by rw [← hAd]; exact hS) (⟨hY.1 z (by omega), _, _, _, _, rfl, hF77, mSync.rem hO hY hz (hT.trans (by rw [show z3 = sN S - 1 by omega])) (by obtain rfl : x = 4 := (by omega); exact hKd)⟩) dX10_remove_101 hlocks
                · refine lv_aload_n hx hb dX10_remove_82 rfl (lv_at hl 0 rfl) ?_
                  refine lv_iload_n hx hb dX10_remove_83 rfl (lv_at hl 3 rfl) ?_
                  refine lv_iload_n hx hb dX10_remove_84 rfl (lv_at hl 1 rfl) ?_
                  refine zr_const hx hb dX10_remove_85 ?_
                  refine zr_add hx hb dX10_remove_86 ?_
                  refine lv_iload_n hx hb dX10_remove_87 rfl (lv_at hl 1 rfl) ?_
                  refine zr_const hx hb dX10_remove_88 ?_
                  refine zr_add hx hb dX10_remove_89 ?_
                  refine zr_const hx hb dX10_remove_90 ?_
                  rw [show z5 = ((x : Nat) : Int) by omega]
                  refine pc_callv (va_runV (As := [.int (zI ((x : Int))), .int (zI (((z : Int)) + 1)), .int (zI (((z : Int)) + 1)), .int (zI (-1))]) (rest := []) ⟨hx, hb, hml, hown, hts⟩ (kX10_move l D k L F77 a 0 ((sN S - 1)) ((sC S : Int)) T1 K2 A3 A4 A5 A6 A7 A8 A9 V hF77 (by omega) (by omega) (by omega) x (by omega) (((z : Int)) + 1) (((z : Int)) + 1) (-1) (by omega) (by omega) (by omega) (sMk S x) (kindQ hY hKd (by omega)) (mk_24 hO (by omega)) (mv_rem hO (by omega)) n0 _) (cwV 4 hts gX10_remove_X10_move rfl rfl rfl (by decide +kernel) ⟨Nat.le_of_ble_eq_true rfl, Nat.le_of_ble_eq_true rfl⟩) (pc_preV hC hP (Nat.le_trans hn9 hS.1) hD hAn (pl_recv hK hP (hF77.2.2.2.2.2.2.2.2.2.2.2.1 0 (by decide)) hF77.1 (ci := 9) (q := (RX10, TX10, 13)) rfl)) rfl rfl hl.1 rfl (lv_room (Nat.le_of_ble_eq_true rfl)) dX10_remove_91 ⟨Nat.zero_le _, Nat.zero_le _⟩) hD hS hA (fun ur7 H locs hr7 hP hD hS hzr7 => ?_)
                  obtain ⟨Fr7, Rr7, Vr7, hwr7, hMr7, hIr7⟩ := hr7
                  have hwr7 : ur7 = va_pl L Fr7 := hwr7
                  subst hwr7
                  refine zr_iinc (k := 3) (lv' := [(3, .int (zI (z5 + 1))), (0, .ref (a 0)), (1, .int (zI ((z : Int)))), (2, .int (A1 z))]) hx hb dX10_remove_94 hl rfl (by decide) rfl (fun ls hl => ?_)
                  refine lv_goto (tgt := 77) hx hb dX10_remove_97 (by decide) ?_
                  exact ih_77 (x + 1) (z5 + 1) (Fr7) (Rr7) (Vr7) (hMr7) (by omega) (by omega) (kdI_s hKd (by omega) hIr7) (by omega) _ _ hP hD hS _ (lv_sub hl [1, 2, 3, 0] rfl)
            exact cut_77 ((4 - (0) : Int).toNat + 1) (0) (0) (F47) (A2) (A10) (hF47) (by omega) (by omega) (kdI_0 _ _ _ _ _) (by omega) _ _ hP hD hS _ (lv_sub hl [1, 2, 3, 0] rfl)
          · refine lv_aload_n hx hb dX10_remove_55 rfl (lv_at hl 0 rfl) ?_
            refine pl_get (ci := 9) (v := .ref (a 1)) (C := RX10) (T := TX10) (N := 13) hx hb hts hi_X10 hown hK hP (hF47.2.2.2.2.2.2.2.2.2.2.2.1 0 (by decide)) hF47.1 rfl 1 (by decide) hw_1 (fun _ h9 => h9) rfl dX10_remove_56 ?_
            refine lv_iload_n hx hb dX10_remove_59 rfl (lv_at hl 3 rfl) ?_
            refine lv_aload_n hx hb dX10_remove_60 rfl (lv_at hl 0 rfl) ?_
            refine pl_get (ci := 9) (v := .ref (a 1)) (C := RX10) (T := TX10) (N := 13) hx hb hts hi_X10 hown hK hP (hF47.2.2.2.2.2.2.2.2.2.2.2.1 0 (by decide)) hF47.1 rfl 1 (by decide) hw_1 (fun _ h9 => h9) rfl dX10_remove_61 ?_
            refine lv_iload_n hx hb dX10_remove_64 rfl (lv_at hl 3 rfl) ?_
            refine zr_const hx hb dX10_remove_65 ?_
            refine zr_add hx hb dX10_remove_66 ?_
            refine pl_iald hx hb hK hP (hF47.2.2.2.2.2.2.2.2.2.2.2.1 1 (by decide)) 0 hF47.2.1 rfl ((z3 + 1).toNat) (by omega) (by omega) (by decide) dX10_remove_67 ?_
            refine pl_iast (x := (T1 ((z3 + 1).toNat))) hx hb hK hP hD hS (hF47.2.2.2.2.2.2.2.2.2.2.2.1 1 (by decide)) 0 hF47.2.1 rfl ((z3).toNat) (by omega) (by omega) (by decide) dX10_remove_68 (fun H locs hP hD hS => ?_)
            have hP : va_P D vwCl (va_pl L (va_up F47 (a 1) (.inl (k 0, 24, .inl (upd T1 ((z3).toNat) (T1 ((z3 + 1).toNat))))))) H := hP
            have hD : va_D A (va_pl L (va_up F47 (a 1) (.inl (k 0, 24, .inl (upd T1 ((z3).toNat) (T1 ((z3 + 1).toNat))))))) := hD
            refine zr_iinc (k := 3) (lv' := [(3, .int (zI (z3 + 1))), (0, .ref (a 0)), (1, .int (zI ((z : Int)))), (2, .int (A1 z))]) hx hb dX10_remove_69 hl rfl (by decide) rfl (fun ls hl => ?_)
            refine lv_goto (tgt := 47) hx hb dX10_remove_72 (by decide) ?_
            exact ih_47 (z3 + 1) (va_up F47 (a 1) (.inl (k 0, 24, .inl (upd T1 ((z3).toNat) (T1 ((z3 + 1).toNat)))))) ((upd T1 ((z3).toNat) (T1 ((z3 + 1).toNat)))) ((mRep.s1 hF47 _)) (by omega) (by rw [hT]; exact shD_s (by omega)) (by omega) _ _ hP hD hS _ (lv_sub hl [1, 2, 3, 0] rfl)
      exact cut_47 ((sN S - ((z : Int)) : Int).toNat + 1) ((z : Int)) (va_up Fr3 (a 0) (.inr (9, [.int (zI (0)), .ref (a 1), .int (zI (((sN S)) - 1)), .ref (a 2), .int (zI ((sC S : Int))), .ref (a 3), .ref (a 4), .ref (a 5), .ref (a 6), .ref (a 7), .ref (a 8), .ref (a 9), .ref (a 10)]))) (A1) ((mRep.o hMr3 _ _ _)) (by omega) ((shD_0 _ _).symm) (by omega) _ _ hP hD hS _ (lv_sub hl [2, 3, 1, 0] rfl)
    · exact absurd c4 (by decide)

set_option maxHeartbeats 4000000 in
set_option maxRecDepth 100000 in
theorem kX10_remove_n (l : Launch) (D : va_G) (k : Nat → ClassId) (L : List Nat) (f : Nat → va_E) (S : SA) (hO : aOK S) (a : Nat → Nat) (tw : Int) (A1 A2 A3 A4 A5 A6 A7 A8 A9 A10 : Nat → Int32) (hM : mRep k L f a tw ((sN S)) ((sC S : Int)) A1 A2 A3 A4 A5 A6 A7 A8 A9 A10) (hMT : 0 ≤ tw ∧ tw ≤ 3) (hY : mSync S A1 A2 A3 A4 A5 A6 A7) (z : Int) (hz : -2147483648 ≤ z ∧ z < 2147483648) (hz2 : ¬ (0 ≤ z ∧ z < sN S)) (n0 sz : Nat) : Met l yX10_remove wsX10_remove ({ frames := 1, cells := 0, slots := 0, locals := 22 } : Room) (va_Pc [.ref (a 0), .int (zI (z))] (pPre D (tyL k) n0 (va_pl L f) sz)) (va_Qi (fun _ u => ∃ F : Nat → va_E, u = va_pl L F ∧ mRep k L F a 1 ((sN S)) ((sC S : Int)) A1 A2 A3 A4 A5 A6 A7 A8 A9 A10) (pB D (va_pl L f) sz) (va_A (va_pl L f) sz)) 0 0 (va_A (va_pl L f) sz) := by
  refine Met.ofW (cc := cX10_remove) (maxL := 4) (ret := (some .int)) (by decide) rfl ?_
  intro p e s m args below meth c s₁ B hml hv
  obtain ⟨rfl, hsz, hn9, hP, hC, hD0⟩ := hv
  have hK := hC.1
  have hNW := hC.2.1
  have hx := B.exec
  have hb := B.bytes
  have hrt := B.returns
  have hts := atoms_spec (ws := wsX10_remove) B.pre
  have hown : s.vm.findClass RX10 = some m.cls := findClass_of_methodNamed B.named
  have hlocks := B.notSynchronized
  subst hsz
  obtain ⟨A, hAd⟩ : ∃ A, A = va_A (va_pl L f) s.heap.size := ⟨_, rfl⟩
  have hD := hD0.self (sz := s.heap.size)
  rw [← hAd] at hD
  have hA : ∀ q : Nat, s.heap.size ≤ q → A q := fun q h => by rw [hAd]; exact Or.inr h
  have hAn : ∀ q : Nat, A q → n0 ≤ q := fun q h => by
    rw [hAd] at h
    rcases h with ⟨k9, e9, hk9⟩ | h
    · exact hD0.2 k9 _ hk9
    · exact Nat.le_trans hn9 h
  have hS : va_S A s.heap s.heap [] := va_S.rf
  have hi_X10 : ∀ w ∈ u_ws RX10 TX10 13, w ∈ wsX10_remove := by decide +kernel
  have hw_0 := hts (.fieldLink RX10 52 "RegionryModel" "length" "I") (by decide +kernel)
  have hl := lv_entry ([.ref (a 0), .int (zI (z))]) (n := 4) (Nat.le_of_ble_eq_true rfl)
  rw [lg_entry_eq]
  generalize (lg_sl ([.ref (a 0), .int (zI (z))]) ++ List.replicate (4 - (lg_sl ([.ref (a 0), .int (zI (z))])).length) Slot.unset).toArray = ls at hl ⊢
  have hl : lv_has ls 4 [(0, .ref (a 0)), (1, .int (zI (z)))] := hl
  obtain ⟨Q, hQ⟩ : ∃ Q, Q = MQ below (va_Qi (fun _ u => ∃ F : Nat → va_E, u = va_pl L F ∧ mRep k L F a 1 ((sN S)) ((sC S : Int)) A1 A2 A3 A4 A5 A6 A7 A8 A9 A10) (pB D (va_pl L f) s.heap.size) (va_A (va_pl L f) s.heap.size)) ([.ref (a 0), .int (zI (z))] : List Value).toArray s 0 0 (va_A (va_pl L f) s.heap.size) := ⟨_, rfl⟩
  rw [← hQ]
  have hMN := hO.1
  have hMC : 0 ≤ (sC S : Int) ∧ (sC S : Int) ≤ 30 := by have h8 := hO.2.2.2.1; omega
  refine lv_aload_n hx hb dX10_remove_0 rfl (lv_at hl 0 rfl) ?_
  refine lv_iload_n hx hb dX10_remove_1 rfl (lv_at hl 1 rfl) ?_
  refine zr_const hx hb dX10_remove_2 ?_
  refine lv_aload_n hx hb dX10_remove_3 rfl (lv_at hl 0 rfl) ?_
  refine pl_get (ci := 9) (v := .int (zI ((sN S)))) (C := RX10) (T := TX10) (N := 13) hx hb hts hi_X10 hown hK hP (hM.2.2.2.2.2.2.2.2.2.2.2.1 0 (by decide)) hM.1 rfl 2 (by decide) hw_0 (fun _ h9 => h9) rfl dX10_remove_4 ?_
  refine zr_const hx hb dX10_remove_7 ?_
  refine zr_sub hx hb dX10_remove_8 ?_
  refine vp_callSi (va_Run.run (va_runS (As := [.int (zI (z)), .int (zI (0)), .int (zI (((sN S)) - 1))]) (rest := [.ref (a 0)]) ⟨hx, hb, hml, hown, hts⟩ (kX10_in l D k L f (z) (by omega) (0) (by omega) (((sN S)) - 1) (by omega)) (va_cwS 3 hts gX10_remove_X10_in rfl rfl rfl (by decide +kernel) ⟨Nat.le_of_ble_eq_true rfl, Nat.le_of_ble_eq_true rfl⟩) (rc_preS hC hP) rfl rfl hl.1 rfl (lv_room (Nat.le_of_ble_eq_true rfl)) dX10_remove_9 ⟨Nat.zero_le _, Nat.zero_le _⟩)) (fun r1 hr1 => ?_)
  subst hr1
  refine zr_ifb_eq (tgt := 19) hx hb dX10_remove_12 (by decide) (fun c2 => ?_) (fun c2 => ?_)
  · have hn_c2 := inB_n c2
    refine zr_const hx hb dX10_remove_19 ?_
    refine pc_calli (va_runV (As := [.int (zI (1))]) (rest := []) ⟨hx, hb, hml, hown, hts⟩ (kX10_goesWell l D k L f a tw ((sN S)) ((sC S : Int)) A1 A2 A3 A4 A5 A6 A7 A8 A9 A10 hM (by omega) (by omega) (by omega) (1) (by omega) n0 _) (cwV 1 hts gX10_remove_X10_goesWell rfl rfl rfl (by decide +kernel) ⟨Nat.le_of_ble_eq_true rfl, Nat.le_of_ble_eq_true rfl⟩) (pc_preV hC hP (Nat.le_trans hn9 hS.1) hD hAn (pl_recv hK hP (hM.2.2.2.2.2.2.2.2.2.2.2.1 0 (by decide)) hM.1 (ci := 9) (q := (RX10, TX10, 13)) rfl)) rfl rfl hl.1 rfl (lv_room (Nat.le_of_ble_eq_true rfl)) dX10_remove_20 ⟨Nat.zero_le _, Nat.zero_le _⟩) hD hS hA (fun r3 ur3 H locs hr3 hP hD hS hzr3 => ?_)
    obtain ⟨hvr3, Fr3, hwr3, hMr3⟩ := hr3
    have hvr3 : r3 = bI (decide ((1 : Int) = 0)) := hvr3
    subst hvr3
    have hwr3 : ur3 = va_pl L Fr3 := hwr3
    subst hwr3
    refine zr_ifb_ne (tgt := 28) hx hb dX10_remove_23 (by decide) (fun c4 => ?_) (fun c4 => ?_)
    · exact absurd c4 (by decide)
    · refine zr_const hx hb dX10_remove_26 ?_
      rw [hQ]
      exact pc_iret hx hb hrt hP (by rw [← hAd]; exact hD) (by rw [← hAd]; exact hS) (⟨_, rfl, hMr3⟩) dX10_remove_27 hlocks
  · have hn_c2 := inB_i c2
    exfalso; omega

set_option maxHeartbeats 4000000 in
set_option maxRecDepth 100000 in
theorem kX10_letterAt (l : Launch) (D : va_G) (k : Nat → ClassId) (L : List Nat) (f : Nat → va_E) (S : SA) (hO : aOK S) (a : Nat → Nat) (tw : Int) (A1 A2 A3 A4 A5 A6 A7 A8 A9 A10 : Nat → Int32) (hM : mRep k L f a tw ((sN S)) ((sC S : Int)) A1 A2 A3 A4 A5 A6 A7 A8 A9 A10) (hMT : 0 ≤ tw ∧ tw ≤ 3) (hY : mSync S A1 A2 A3 A4 A5 A6 A7) (z : Nat) (hz : (z : Int) < sN S) (n0 sz : Nat) : Met l yX10_letterAt wsX10_letterAt ({ frames := 1, cells := 0, slots := 0, locals := 22 } : Room) (va_Pc [.ref (a 0), .int (zI ((z : Int)))] (pPre D (tyL k) n0 (va_pl L f) sz)) (va_Qi (fun r9 u => r9 = sT S z ∧ ∃ F : Nat → va_E, u = va_pl L F ∧ mRep k L F a 0 ((sN S)) ((sC S : Int)) A1 A2 A3 A4 A5 A6 A7 A8 A9 A10) (pB D (va_pl L f) sz) (va_A (va_pl L f) sz)) 0 0 (va_A (va_pl L f) sz) := by
  refine Met.ofW (cc := cX10_letterAt) (maxL := 2) (ret := (some .int)) (by decide) rfl ?_
  intro p e s m args below meth c s₁ B hml hv
  obtain ⟨rfl, hsz, hn9, hP, hC, hD0⟩ := hv
  have hK := hC.1
  have hNW := hC.2.1
  have hx := B.exec
  have hb := B.bytes
  have hrt := B.returns
  have hts := atoms_spec (ws := wsX10_letterAt) B.pre
  have hown : s.vm.findClass RX10 = some m.cls := findClass_of_methodNamed B.named
  have hlocks := B.notSynchronized
  subst hsz
  obtain ⟨A, hAd⟩ : ∃ A, A = va_A (va_pl L f) s.heap.size := ⟨_, rfl⟩
  have hD := hD0.self (sz := s.heap.size)
  rw [← hAd] at hD
  have hA : ∀ q : Nat, s.heap.size ≤ q → A q := fun q h => by rw [hAd]; exact Or.inr h
  have hAn : ∀ q : Nat, A q → n0 ≤ q := fun q h => by
    rw [hAd] at h
    rcases h with ⟨k9, e9, hk9⟩ | h
    · exact hD0.2 k9 _ hk9
    · exact Nat.le_trans hn9 h
  have hS : va_S A s.heap s.heap [] := va_S.rf
  have hi_X10 : ∀ w ∈ u_ws RX10 TX10 13, w ∈ wsX10_letterAt := by decide +kernel
  have hw_0 := hts (.fieldLink RX10 52 "RegionryModel" "length" "I") (by decide +kernel)
  have hw_1 := hts (.fieldLink RX10 7 "RegionryModel" "text" "[I") (by decide +kernel)
  have hl := lv_entry ([.ref (a 0), .int (zI ((z : Int)))]) (n := 2) (Nat.le_of_ble_eq_true rfl)
  rw [lg_entry_eq]
  generalize (lg_sl ([.ref (a 0), .int (zI ((z : Int)))]) ++ List.replicate (2 - (lg_sl ([.ref (a 0), .int (zI ((z : Int)))])).length) Slot.unset).toArray = ls at hl ⊢
  have hl : lv_has ls 2 [(0, .ref (a 0)), (1, .int (zI ((z : Int))))] := hl
  obtain ⟨Q, hQ⟩ : ∃ Q, Q = MQ below (va_Qi (fun r9 u => r9 = sT S z ∧ ∃ F : Nat → va_E, u = va_pl L F ∧ mRep k L F a 0 ((sN S)) ((sC S : Int)) A1 A2 A3 A4 A5 A6 A7 A8 A9 A10) (pB D (va_pl L f) s.heap.size) (va_A (va_pl L f) s.heap.size)) ([.ref (a 0), .int (zI ((z : Int)))] : List Value).toArray s 0 0 (va_A (va_pl L f) s.heap.size) := ⟨_, rfl⟩
  rw [← hQ]
  have hMN := hO.1
  have hMC : 0 ≤ (sC S : Int) ∧ (sC S : Int) ≤ 30 := by have h8 := hO.2.2.2.1; omega
  refine lv_aload_n hx hb dX10_letterAt_0 rfl (lv_at hl 0 rfl) ?_
  refine lv_iload_n hx hb dX10_letterAt_1 rfl (lv_at hl 1 rfl) ?_
  refine zr_const hx hb dX10_letterAt_2 ?_
  refine lv_aload_n hx hb dX10_letterAt_3 rfl (lv_at hl 0 rfl) ?_
  refine pl_get (ci := 9) (v := .int (zI ((sN S)))) (C := RX10) (T := TX10) (N := 13) hx hb hts hi_X10 hown hK hP (hM.2.2.2.2.2.2.2.2.2.2.2.1 0 (by decide)) hM.1 rfl 2 (by decide) hw_0 (fun _ h9 => h9) rfl dX10_letterAt_4 ?_
  refine zr_const hx hb dX10_letterAt_7 ?_
  refine zr_sub hx hb dX10_letterAt_8 ?_
  refine vp_callSi (va_Run.run (va_runS (As := [.int (zI ((z : Int))), .int (zI (0)), .int (zI (((sN S)) - 1))]) (rest := [.ref (a 0)]) ⟨hx, hb, hml, hown, hts⟩ (kX10_in l D k L f ((z : Int)) (by omega) (0) (by omega) (((sN S)) - 1) (by omega)) (va_cwS 3 hts gX10_letterAt_X10_in rfl rfl rfl (by decide +kernel) ⟨Nat.le_of_ble_eq_true rfl, Nat.le_of_ble_eq_true rfl⟩) (rc_preS hC hP) rfl rfl hl.1 rfl (lv_room (Nat.le_of_ble_eq_true rfl)) dX10_letterAt_9 ⟨Nat.zero_le _, Nat.zero_le _⟩)) (fun r1 hr1 => ?_)
  subst hr1
  refine zr_ifb_eq (tgt := 19) hx hb dX10_letterAt_12 (by decide) (fun c2 => ?_) (fun c2 => ?_)
  · have hn_c2 := inB_n c2
    exfalso; omega
  · have hn_c2 := inB_i c2
    refine zr_const hx hb dX10_letterAt_15 ?_
    refine lv_goto (tgt := 20) hx hb dX10_letterAt_16 (by decide) ?_
    refine pc_calli (va_runV (As := [.int (zI (0))]) (rest := []) ⟨hx, hb, hml, hown, hts⟩ (kX10_goesWell l D k L f a tw ((sN S)) ((sC S : Int)) A1 A2 A3 A4 A5 A6 A7 A8 A9 A10 hM (by omega) (by omega) (by omega) (0) (by omega) n0 _) (cwV 1 hts gX10_letterAt_X10_goesWell rfl rfl rfl (by decide +kernel) ⟨Nat.le_of_ble_eq_true rfl, Nat.le_of_ble_eq_true rfl⟩) (pc_preV hC hP (Nat.le_trans hn9 hS.1) hD hAn (pl_recv hK hP (hM.2.2.2.2.2.2.2.2.2.2.2.1 0 (by decide)) hM.1 (ci := 9) (q := (RX10, TX10, 13)) rfl)) rfl rfl hl.1 rfl (lv_room (Nat.le_of_ble_eq_true rfl)) dX10_letterAt_20 ⟨Nat.zero_le _, Nat.zero_le _⟩) hD hS hA (fun r3 ur3 H locs hr3 hP hD hS hzr3 => ?_)
    obtain ⟨hvr3, Fr3, hwr3, hMr3⟩ := hr3
    have hvr3 : r3 = bI (decide ((0 : Int) = 0)) := hvr3
    subst hvr3
    have hwr3 : ur3 = va_pl L Fr3 := hwr3
    subst hwr3
    refine zr_ifb_eq (tgt := 35) hx hb dX10_letterAt_23 (by decide) (fun c4 => ?_) (fun c4 => ?_)
    · exact absurd c4 (by decide)
    · refine lv_aload_n hx hb dX10_letterAt_26 rfl (lv_at hl 0 rfl) ?_
      refine pl_get (ci := 9) (v := .ref (a 1)) (C := RX10) (T := TX10) (N := 13) hx hb hts hi_X10 hown hK hP (hMr3.2.2.2.2.2.2.2.2.2.2.2.1 0 (by decide)) hMr3.1 rfl 1 (by decide) hw_1 (fun _ h9 => h9) rfl dX10_letterAt_27 ?_
      refine lv_iload_n hx hb dX10_letterAt_30 rfl (lv_at hl 1 rfl) ?_
      refine pl_iald hx hb hK hP (hMr3.2.2.2.2.2.2.2.2.2.2.2.1 1 (by decide)) 0 hMr3.2.1 rfl (z) (by omega) (by omega) (by decide) dX10_letterAt_31 ?_
      refine lv_goto (tgt := 36) hx hb dX10_letterAt_32 (by decide) ?_
      rw [hQ]
      exact pc_iret hx hb hrt hP (by rw [← hAd]; exact hD) (by rw [← hAd]; exact hS) (⟨hY.1 z (by omega), _, rfl, hMr3⟩) dX10_letterAt_36 hlocks

set_option maxHeartbeats 4000000 in
set_option maxRecDepth 100000 in
theorem kX10_letterAt_n (l : Launch) (D : va_G) (k : Nat → ClassId) (L : List Nat) (f : Nat → va_E) (S : SA) (hO : aOK S) (a : Nat → Nat) (tw : Int) (A1 A2 A3 A4 A5 A6 A7 A8 A9 A10 : Nat → Int32) (hM : mRep k L f a tw ((sN S)) ((sC S : Int)) A1 A2 A3 A4 A5 A6 A7 A8 A9 A10) (hMT : 0 ≤ tw ∧ tw ≤ 3) (hY : mSync S A1 A2 A3 A4 A5 A6 A7) (z : Int) (hz : -2147483648 ≤ z ∧ z < 2147483648) (hz2 : ¬ (0 ≤ z ∧ z < sN S)) (n0 sz : Nat) : Met l yX10_letterAt wsX10_letterAt ({ frames := 1, cells := 0, slots := 0, locals := 22 } : Room) (va_Pc [.ref (a 0), .int (zI (z))] (pPre D (tyL k) n0 (va_pl L f) sz)) (va_Qi (fun _ u => ∃ F : Nat → va_E, u = va_pl L F ∧ mRep k L F a 1 ((sN S)) ((sC S : Int)) A1 A2 A3 A4 A5 A6 A7 A8 A9 A10) (pB D (va_pl L f) sz) (va_A (va_pl L f) sz)) 0 0 (va_A (va_pl L f) sz) := by
  refine Met.ofW (cc := cX10_letterAt) (maxL := 2) (ret := (some .int)) (by decide) rfl ?_
  intro p e s m args below meth c s₁ B hml hv
  obtain ⟨rfl, hsz, hn9, hP, hC, hD0⟩ := hv
  have hK := hC.1
  have hNW := hC.2.1
  have hx := B.exec
  have hb := B.bytes
  have hrt := B.returns
  have hts := atoms_spec (ws := wsX10_letterAt) B.pre
  have hown : s.vm.findClass RX10 = some m.cls := findClass_of_methodNamed B.named
  have hlocks := B.notSynchronized
  subst hsz
  obtain ⟨A, hAd⟩ : ∃ A, A = va_A (va_pl L f) s.heap.size := ⟨_, rfl⟩
  have hD := hD0.self (sz := s.heap.size)
  rw [← hAd] at hD
  have hA : ∀ q : Nat, s.heap.size ≤ q → A q := fun q h => by rw [hAd]; exact Or.inr h
  have hAn : ∀ q : Nat, A q → n0 ≤ q := fun q h => by
    rw [hAd] at h
    rcases h with ⟨k9, e9, hk9⟩ | h
    · exact hD0.2 k9 _ hk9
    · exact Nat.le_trans hn9 h
  have hS : va_S A s.heap s.heap [] := va_S.rf
  have hi_X10 : ∀ w ∈ u_ws RX10 TX10 13, w ∈ wsX10_letterAt := by decide +kernel
  have hw_0 := hts (.fieldLink RX10 52 "RegionryModel" "length" "I") (by decide +kernel)
  have hl := lv_entry ([.ref (a 0), .int (zI (z))]) (n := 2) (Nat.le_of_ble_eq_true rfl)
  rw [lg_entry_eq]
  generalize (lg_sl ([.ref (a 0), .int (zI (z))]) ++ List.replicate (2 - (lg_sl ([.ref (a 0), .int (zI (z))])).length) Slot.unset).toArray = ls at hl ⊢
  have hl : lv_has ls 2 [(0, .ref (a 0)), (1, .int (zI (z)))] := hl
  obtain ⟨Q, hQ⟩ : ∃ Q, Q = MQ below (va_Qi (fun _ u => ∃ F : Nat → va_E, u = va_pl L F ∧ mRep k L F a 1 ((sN S)) ((sC S : Int)) A1 A2 A3 A4 A5 A6 A7 A8 A9 A10) (pB D (va_pl L f) s.heap.size) (va_A (va_pl L f) s.heap.size)) ([.ref (a 0), .int (zI (z))] : List Value).toArray s 0 0 (va_A (va_pl L f) s.heap.size) := ⟨_, rfl⟩
  rw [← hQ]
  have hMN := hO.1
  have hMC : 0 ≤ (sC S : Int) ∧ (sC S : Int) ≤ 30 := by have h8 := hO.2.2.2.1; omega
  refine lv_aload_n hx hb dX10_letterAt_0 rfl (lv_at hl 0 rfl) ?_
  refine lv_iload_n hx hb dX10_letterAt_1 rfl (lv_at hl 1 rfl) ?_
  refine zr_const hx hb dX10_letterAt_2 ?_
  refine lv_aload_n hx hb dX10_letterAt_3 rfl (lv_at hl 0 rfl) ?_
  refine pl_get (ci := 9) (v := .int (zI ((sN S)))) (C := RX10) (T := TX10) (N := 13) hx hb hts hi_X10 hown hK hP (hM.2.2.2.2.2.2.2.2.2.2.2.1 0 (by decide)) hM.1 rfl 2 (by decide) hw_0 (fun _ h9 => h9) rfl dX10_letterAt_4 ?_
  refine zr_const hx hb dX10_letterAt_7 ?_
  refine zr_sub hx hb dX10_letterAt_8 ?_
  refine vp_callSi (va_Run.run (va_runS (As := [.int (zI (z)), .int (zI (0)), .int (zI (((sN S)) - 1))]) (rest := [.ref (a 0)]) ⟨hx, hb, hml, hown, hts⟩ (kX10_in l D k L f (z) (by omega) (0) (by omega) (((sN S)) - 1) (by omega)) (va_cwS 3 hts gX10_letterAt_X10_in rfl rfl rfl (by decide +kernel) ⟨Nat.le_of_ble_eq_true rfl, Nat.le_of_ble_eq_true rfl⟩) (rc_preS hC hP) rfl rfl hl.1 rfl (lv_room (Nat.le_of_ble_eq_true rfl)) dX10_letterAt_9 ⟨Nat.zero_le _, Nat.zero_le _⟩)) (fun r1 hr1 => ?_)
  subst hr1
  refine zr_ifb_eq (tgt := 19) hx hb dX10_letterAt_12 (by decide) (fun c2 => ?_) (fun c2 => ?_)
  · have hn_c2 := inB_n c2
    refine zr_const hx hb dX10_letterAt_19 ?_
    refine pc_calli (va_runV (As := [.int (zI (1))]) (rest := []) ⟨hx, hb, hml, hown, hts⟩ (kX10_goesWell l D k L f a tw ((sN S)) ((sC S : Int)) A1 A2 A3 A4 A5 A6 A7 A8 A9 A10 hM (by omega) (by omega) (by omega) (1) (by omega) n0 _) (cwV 1 hts gX10_letterAt_X10_goesWell rfl rfl rfl (by decide +kernel) ⟨Nat.le_of_ble_eq_true rfl, Nat.le_of_ble_eq_true rfl⟩) (pc_preV hC hP (Nat.le_trans hn9 hS.1) hD hAn (pl_recv hK hP (hM.2.2.2.2.2.2.2.2.2.2.2.1 0 (by decide)) hM.1 (ci := 9) (q := (RX10, TX10, 13)) rfl)) rfl rfl hl.1 rfl (lv_room (Nat.le_of_ble_eq_true rfl)) dX10_letterAt_20 ⟨Nat.zero_le _, Nat.zero_le _⟩) hD hS hA (fun r3 ur3 H locs hr3 hP hD hS hzr3 => ?_)
    obtain ⟨hvr3, Fr3, hwr3, hMr3⟩ := hr3
    have hvr3 : r3 = bI (decide ((1 : Int) = 0)) := hvr3
    subst hvr3
    have hwr3 : ur3 = va_pl L Fr3 := hwr3
    subst hwr3
    refine zr_ifb_eq (tgt := 35) hx hb dX10_letterAt_23 (by decide) (fun c4 => ?_) (fun c4 => ?_)
    · refine zr_const hx hb dX10_letterAt_35 ?_
      rw [hQ]
      exact pc_iret hx hb hrt hP (by rw [← hAd]; exact hD) (by rw [← hAd]; exact hS) (⟨_, rfl, hMr3⟩) dX10_letterAt_36 hlocks
    · exact absurd c4 (by decide)
  · have hn_c2 := inB_i c2
    exfalso; omega

set_option maxHeartbeats 4000000 in
set_option maxRecDepth 100000 in
theorem kX10_mark (l : Launch) (D : va_G) (k : Nat → ClassId) (L : List Nat) (f : Nat → va_E) (S : SA) (hO : aOK S) (a : Nat → Nat) (tw : Int) (A1 A2 A3 A4 A5 A6 A7 A8 A9 A10 : Nat → Int32) (hM : mRep k L f a tw ((sN S)) ((sC S : Int)) A1 A2 A3 A4 A5 A6 A7 A8 A9 A10) (hMT : 0 ≤ tw ∧ tw ≤ 3) (hY : mSync S A1 A2 A3 A4 A5 A6 A7) (q y x : Nat) (hq4 : q < 4) (hyx : y < x ∧ (x : Int) ≤ sN S) (n0 sz : Nat) : Met l yX10_mark wsX10_mark ({ frames := 2, cells := 0, slots := 0, locals := 42 } : Room) (va_Pc [.ref (a 0), .int (zI ((q : Int))), .int (zI ((y : Int))), .int (zI ((x : Int)))] (pPre D (tyL k) n0 (va_pl L f) sz)) (va_Qi (fun r9 u => r9 = bI (!hasB (sR S q) (y : Int) (x : Int)) ∧ ∃ (F : Nat → va_E) (K : Nat → Int32), u = va_pl L F ∧ mRep k L F a 0 ((sN S)) ((sC S : Int)) A1 K A3 A4 A5 A6 A7 A8 A9 A10 ∧ mSync (kindS S q (addR (sR S q) (y : Int) (x : Int))) A1 K A3 A4 A5 A6 A7) (pB D (va_pl L f) sz) (va_A (va_pl L f) sz)) 0 0 (va_A (va_pl L f) sz) := by
  refine Met.ofW (cc := cX10_mark) (maxL := 6) (ret := (some .boolean)) (by decide) rfl ?_
  intro p e s m args below meth c s₁ B hml hv
  obtain ⟨rfl, hsz, hn9, hP, hC, hD0⟩ := hv
  have hK := hC.1
  have hNW := hC.2.1
  have hx := B.exec
  have hb := B.bytes
  have hrt := B.returns
  have hts := atoms_spec (ws := wsX10_mark) B.pre
  have hown : s.vm.findClass RX10 = some m.cls := findClass_of_methodNamed B.named
  have hlocks := B.notSynchronized
  subst hsz
  obtain ⟨A, hAd⟩ : ∃ A, A = va_A (va_pl L f) s.heap.size := ⟨_, rfl⟩
  have hD := hD0.self (sz := s.heap.size)
  rw [← hAd] at hD
  have hA : ∀ q : Nat, s.heap.size ≤ q → A q := fun q h => by rw [hAd]; exact Or.inr h
  have hAn : ∀ q : Nat, A q → n0 ≤ q := fun q h => by
    rw [hAd] at h
    rcases h with ⟨k9, e9, hk9⟩ | h
    · exact hD0.2 k9 _ hk9
    · exact Nat.le_trans hn9 h
  have hS : va_S A s.heap s.heap [] := va_S.rf
  have hi_X10 : ∀ w ∈ u_ws RX10 TX10 13, w ∈ wsX10_mark := by decide +kernel
  have hw_0 := hts (.fieldLink RX10 52 "RegionryModel" "length" "I") (by decide +kernel)
  have hw_1 := hts (.fieldLink RX10 13 "RegionryModel" "marks" "[I") (by decide +kernel)
  have hl := lv_entry ([.ref (a 0), .int (zI ((q : Int))), .int (zI ((y : Int))), .int (zI ((x : Int)))]) (n := 6) (Nat.le_of_ble_eq_true rfl)
  rw [lg_entry_eq]
  generalize (lg_sl ([.ref (a 0), .int (zI ((q : Int))), .int (zI ((y : Int))), .int (zI ((x : Int)))]) ++ List.replicate (6 - (lg_sl ([.ref (a 0), .int (zI ((q : Int))), .int (zI ((y : Int))), .int (zI ((x : Int)))])).length) Slot.unset).toArray = ls at hl ⊢
  have hl : lv_has ls 6 [(0, .ref (a 0)), (1, .int (zI ((q : Int)))), (2, .int (zI ((y : Int)))), (3, .int (zI ((x : Int))))] := hl
  obtain ⟨Q, hQ⟩ : ∃ Q, Q = MQ below (va_Qi (fun r9 u => r9 = bI (!hasB (sR S q) (y : Int) (x : Int)) ∧ ∃ (F : Nat → va_E) (K : Nat → Int32), u = va_pl L F ∧ mRep k L F a 0 ((sN S)) ((sC S : Int)) A1 K A3 A4 A5 A6 A7 A8 A9 A10 ∧ mSync (kindS S q (addR (sR S q) (y : Int) (x : Int))) A1 K A3 A4 A5 A6 A7) (pB D (va_pl L f) s.heap.size) (va_A (va_pl L f) s.heap.size)) ([.ref (a 0), .int (zI ((q : Int))), .int (zI ((y : Int))), .int (zI ((x : Int)))] : List Value).toArray s 0 0 (va_A (va_pl L f) s.heap.size) := ⟨_, rfl⟩
  rw [← hQ]
  have hMN := hO.1
  have hMC : 0 ≤ (sC S : Int) ∧ (sC S : Int) ≤ 30 := by have h8 := hO.2.2.2.1; omega
  refine lv_iload_n hx hb dX10_mark_0 rfl (lv_at hl 2 rfl) ?_
  refine zr_const hx hb dX10_mark_1 ?_
  refine lv_aload_n hx hb dX10_mark_2 rfl (lv_at hl 0 rfl) ?_
  refine pl_get (ci := 9) (v := .int (zI ((sN S)))) (C := RX10) (T := TX10) (N := 13) hx hb hts hi_X10 hown hK hP (hM.2.2.2.2.2.2.2.2.2.2.2.1 0 (by decide)) hM.1 rfl 2 (by decide) hw_0 (fun _ h9 => h9) rfl dX10_mark_3 ?_
  refine zr_const hx hb dX10_mark_6 ?_
  refine zr_sub hx hb dX10_mark_7 ?_
  refine vp_callSi (va_Run.run (va_runS (As := [.int (zI ((y : Int))), .int (zI (0)), .int (zI (((sN S)) - 1))]) (rest := []) ⟨hx, hb, hml, hown, hts⟩ (kX10_in l D k L f ((y : Int)) (by omega) (0) (by omega) (((sN S)) - 1) (by omega)) (va_cwS 3 hts gX10_mark_X10_in rfl rfl rfl (by decide +kernel) ⟨Nat.le_of_ble_eq_true rfl, Nat.le_of_ble_eq_true rfl⟩) (rc_preS hC hP) rfl rfl hl.1 rfl (lv_room (Nat.le_of_ble_eq_true rfl)) dX10_mark_8 ⟨Nat.zero_le _, Nat.zero_le _⟩)) (fun r1 hr1 => ?_)
  subst hr1
  refine zr_ifb_eq (tgt := 32) hx hb dX10_mark_11 (by decide) (fun c2 => ?_) (fun c2 => ?_)
  · have hn_c2 := inB_n c2
    exfalso; omega
  · have hn_c2 := inB_i c2
    refine lv_iload_n hx hb dX10_mark_14 rfl (lv_at hl 3 rfl) ?_
    refine lv_iload_n hx hb dX10_mark_15 rfl (lv_at hl 2 rfl) ?_
    refine zr_const hx hb dX10_mark_16 ?_
    refine zr_add hx hb dX10_mark_17 ?_
    refine lv_aload_n hx hb dX10_mark_18 rfl (lv_at hl 0 rfl) ?_
    refine pl_get (ci := 9) (v := .int (zI ((sN S)))) (C := RX10) (T := TX10) (N := 13) hx hb hts hi_X10 hown hK hP (hM.2.2.2.2.2.2.2.2.2.2.2.1 0 (by decide)) hM.1 rfl 2 (by decide) hw_0 (fun _ h9 => h9) rfl dX10_mark_19 ?_
    refine vp_callSi (va_Run.run (va_runS (As := [.int (zI ((x : Int))), .int (zI (((y : Int)) + 1)), .int (zI ((sN S)))]) (rest := []) ⟨hx, hb, hml, hown, hts⟩ (kX10_in l D k L f ((x : Int)) (by omega) (((y : Int)) + 1) (by omega) ((sN S)) (by omega)) (va_cwS 3 hts gX10_mark_X10_in rfl rfl rfl (by decide +kernel) ⟨Nat.le_of_ble_eq_true rfl, Nat.le_of_ble_eq_true rfl⟩) (rc_preS hC hP) rfl rfl hl.1 rfl (lv_room (Nat.le_of_ble_eq_true rfl)) dX10_mark_22 ⟨Nat.zero_le _, Nat.zero_le _⟩)) (fun r3 hr3 => ?_)
    subst hr3
    refine zr_ifb_eq (tgt := 32) hx hb dX10_mark_25 (by decide) (fun c4 => ?_) (fun c4 => ?_)
    · have hn_c4 := inB_n c4
      exfalso; omega
    · have hn_c4 := inB_i c4
      refine zr_const hx hb dX10_mark_28 ?_
      refine lv_goto (tgt := 33) hx hb dX10_mark_29 (by decide) ?_
      refine zr_top (y := bI true) (by decide) ?_
      refine lv_istore (lv' := [(4, .int (bI (true))), (0, .ref (a 0)), (1, .int (zI ((q : Int)))), (2, .int (zI ((y : Int)))), (3, .int (zI ((x : Int))))]) hx hb dX10_mark_33 hl (by decide) rfl (fun ls hl => ?_)
      refine lv_aload_n hx hb dX10_mark_35 rfl (lv_at hl 1 rfl) ?_
      refine lv_iload_n hx hb dX10_mark_36 rfl (lv_at hl 2 rfl) ?_
      refine vp_callSi (va_Run.run (va_runS (As := [.int (zI ((q : Int)))]) (rest := [.ref (a 0)]) ⟨hx, hb, hml, hown, hts⟩ (kX10_isKind l D k L f ((q : Int)) (by omega)) (va_cwS 1 hts gX10_mark_X10_isKind rfl rfl rfl (by decide +kernel) ⟨Nat.le_of_ble_eq_true rfl, Nat.le_of_ble_eq_true rfl⟩) (rc_preS hC hP) rfl rfl hl.1 rfl (lv_room (Nat.le_of_ble_eq_true rfl)) dX10_mark_37 ⟨Nat.zero_le _, Nat.zero_le _⟩)) (fun r5 hr5 => ?_)
      subst hr5
      refine zr_ifb_ne (tgt := 47) hx hb dX10_mark_40 (by decide) (fun c6 => ?_) (fun c6 => ?_)
      · have hn_c6 := inB_i c6
        refine lv_iload hx hb dX10_mark_47 (lv_at hl 0 rfl) ?_
        refine zr_ifb_eq (tgt := 56) hx hb dX10_mark_49 (by decide) (fun c7 => ?_) (fun c7 => ?_)
        · exact absurd c7 (by decide)
        · refine zr_const hx hb dX10_mark_52 ?_
          refine lv_goto (tgt := 57) hx hb dX10_mark_53 (by decide) ?_
          refine pc_calli (va_runV (As := [.int (zI (0))]) (rest := []) ⟨hx, hb, hml, hown, hts⟩ (kX10_goesWell l D k L f a tw ((sN S)) ((sC S : Int)) A1 A2 A3 A4 A5 A6 A7 A8 A9 A10 hM (by omega) (by omega) (by omega) (0) (by omega) n0 _) (cwV 1 hts gX10_mark_X10_goesWell rfl rfl rfl (by decide +kernel) ⟨Nat.le_of_ble_eq_true rfl, Nat.le_of_ble_eq_true rfl⟩) (pc_preV hC hP (Nat.le_trans hn9 hS.1) hD hAn (pl_recv hK hP (hM.2.2.2.2.2.2.2.2.2.2.2.1 0 (by decide)) hM.1 (ci := 9) (q := (RX10, TX10, 13)) rfl)) rfl rfl hl.1 rfl (lv_room (Nat.le_of_ble_eq_true rfl)) dX10_mark_57 ⟨Nat.zero_le _, Nat.zero_le _⟩) hD hS hA (fun r8 ur8 H locs hr8 hP hD hS hzr8 => ?_)
          obtain ⟨hvr8, Fr8, hwr8, hMr8⟩ := hr8
          have hvr8 : r8 = bI (decide ((0 : Int) = 0)) := hvr8
          subst hvr8
          have hwr8 : ur8 = va_pl L Fr8 := hwr8
          subst hwr8
          refine zr_ifb_ne (tgt := 65) hx hb dX10_mark_60 (by decide) (fun c9 => ?_) (fun c9 => ?_)
          · refine lv_aload_n hx hb dX10_mark_65 rfl (lv_at hl 1 rfl) ?_
            refine pl_get (ci := 9) (v := .ref (a 2)) (C := RX10) (T := TX10) (N := 13) hx hb hts hi_X10 hown hK hP (hMr8.2.2.2.2.2.2.2.2.2.2.2.1 0 (by decide)) hMr8.1 rfl 3 (by decide) hw_1 (fun _ h9 => h9) rfl dX10_mark_66 ?_
            refine zr_bipush hx hb dX10_mark_69 (by decide) ?_
            refine lv_iload_n hx hb dX10_mark_71 rfl (lv_at hl 2 rfl) ?_
            refine zr_mul hx hb dX10_mark_72 ?_
            refine lv_iload_n hx hb dX10_mark_73 rfl (lv_at hl 3 rfl) ?_
            refine zr_add hx hb dX10_mark_74 ?_
            refine pl_iald hx hb hK hP (hMr8.2.2.2.2.2.2.2.2.2.2.2.1 2 (by decide)) 0 hMr8.2.2.1 rfl (25 * q + y) (by omega) (by omega) (by decide) dX10_mark_75 ?_
            refine lv_iload_n hx hb dX10_mark_76 rfl (lv_at hl 4 rfl) ?_
            refine lv_ishr hx hb dX10_mark_77 ?_
            refine zr_const hx hb dX10_mark_78 ?_
            refine lv_iand hx hb dX10_mark_79 ?_
            refine zr_top (sh_bit (j := x) (by omega) (by omega)) ?_
            refine zr_const hx hb dX10_mark_80 ?_
            refine zr_icmp_ne (tgt := 88) hx hb dX10_mark_81 (by decide) (by omega) (by omega) (fun c10 => ?_) (fun c10 => ?_)
            · refine zr_const hx hb dX10_mark_88 ?_
              refine zr_top (y := bI false) (by decide) ?_
              refine lv_istore (lv' := [(5, .int (bI (false))), (4, .int (bI (true))), (0, .ref (a 0)), (1, .int (zI ((q : Int)))), (2, .int (zI ((y : Int)))), (3, .int (zI ((x : Int))))]) hx hb dX10_mark_89 hl (by decide) rfl (fun ls hl => ?_)
              refine lv_aload_n hx hb dX10_mark_91 rfl (lv_at hl 2 rfl) ?_
              refine pl_get (ci := 9) (v := .ref (a 2)) (C := RX10) (T := TX10) (N := 13) hx hb hts hi_X10 hown hK hP (hMr8.2.2.2.2.2.2.2.2.2.2.2.1 0 (by decide)) hMr8.1 rfl 3 (by decide) hw_1 (fun _ h9 => h9) rfl dX10_mark_92 ?_
              refine zr_bipush hx hb dX10_mark_95 (by decide) ?_
              refine lv_iload_n hx hb dX10_mark_97 rfl (lv_at hl 3 rfl) ?_
              refine zr_mul hx hb dX10_mark_98 ?_
              refine lv_iload_n hx hb dX10_mark_99 rfl (lv_at hl 4 rfl) ?_
              refine zr_add hx hb dX10_mark_100 ?_
              refine lv_dup2_11 hx hb dX10_mark_101 rfl rfl ?_
              refine pl_iald hx hb hK hP (hMr8.2.2.2.2.2.2.2.2.2.2.2.1 2 (by decide)) 0 hMr8.2.2.1 rfl (25 * q + y) (by omega) (by omega) (by decide) dX10_mark_102 ?_
              refine zr_const hx hb dX10_mark_103 ?_
              refine lv_iload_n hx hb dX10_mark_104 rfl (lv_at hl 5 rfl) ?_
              refine zr_shl1 hx hb (by omega) dX10_mark_105 ?_
              refine lv_ior hx hb dX10_mark_106 ?_
              refine pl_iast (x := ((A2 (25 * q + y)) ||| (pw ((x : Int)).toNat))) hx hb hK hP hD hS (hMr8.2.2.2.2.2.2.2.2.2.2.2.1 2 (by decide)) 0 hMr8.2.2.1 rfl (25 * q + y) (by omega) (by omega) (by decide) dX10_mark_107 (fun H locs hP hD hS => ?_)
              have hP : va_P D vwCl (va_pl L (va_up Fr8 (a 2) (.inl (k 0, 100, .inl (upd A2 (25 * q + y) ((A2 (25 * q + y)) ||| (pw ((x : Int)).toNat))))))) H := hP
              have hD : va_D A (va_pl L (va_up Fr8 (a 2) (.inl (k 0, 100, .inl (upd A2 (25 * q + y) ((A2 (25 * q + y)) ||| (pw ((x : Int)).toNat))))))) := hD
              refine lv_iload hx hb dX10_mark_108 (lv_at hl 0 rfl) ?_
              refine zr_ifb_ne (tgt := 117) hx hb dX10_mark_110 (by decide) (fun c11 => ?_) (fun c11 => ?_)
              · exact absurd c11 (by decide)
              · refine zr_const hx hb dX10_mark_113 ?_
                refine lv_goto (tgt := 118) hx hb dX10_mark_114 (by decide) ?_
                rw [hQ]
                refine zr_top (y := bI (!hasB (sR S q) (y : Int) (x : Int))) (by first | exact bI_n0 (mk_had hO hY hq4 (by omega) (by omega) (ite_1 (by assumption))) | exact bI_n1 (mk_had hO hY hq4 (by omega) (by omega) (ite_0 (by assumption)))) ?_
                exact pc_zret hx hb hrt hP (by rw [← hAd]; exact hD) (by rw [← hAd]; exact hS) (⟨rfl, _, _, rfl, (mRep.s2 hMr8 _), mSync.add hO hY hq4 hyx rfl⟩) dX10_mark_118 hlocks
            · refine zr_const hx hb dX10_mark_84 ?_
              refine lv_goto (tgt := 89) hx hb dX10_mark_85 (by decide) ?_
              refine zr_top (y := bI true) (by decide) ?_
              refine lv_istore (lv' := [(5, .int (bI (true))), (4, .int (bI (true))), (0, .ref (a 0)), (1, .int (zI ((q : Int)))), (2, .int (zI ((y : Int)))), (3, .int (zI ((x : Int))))]) hx hb dX10_mark_89 hl (by decide) rfl (fun ls hl => ?_)
              refine lv_aload_n hx hb dX10_mark_91 rfl (lv_at hl 2 rfl) ?_
              refine pl_get (ci := 9) (v := .ref (a 2)) (C := RX10) (T := TX10) (N := 13) hx hb hts hi_X10 hown hK hP (hMr8.2.2.2.2.2.2.2.2.2.2.2.1 0 (by decide)) hMr8.1 rfl 3 (by decide) hw_1 (fun _ h9 => h9) rfl dX10_mark_92 ?_
              refine zr_bipush hx hb dX10_mark_95 (by decide) ?_
              refine lv_iload_n hx hb dX10_mark_97 rfl (lv_at hl 3 rfl) ?_
              refine zr_mul hx hb dX10_mark_98 ?_
              refine lv_iload_n hx hb dX10_mark_99 rfl (lv_at hl 4 rfl) ?_
              refine zr_add hx hb dX10_mark_100 ?_
              refine lv_dup2_11 hx hb dX10_mark_101 rfl rfl ?_
              refine pl_iald hx hb hK hP (hMr8.2.2.2.2.2.2.2.2.2.2.2.1 2 (by decide)) 0 hMr8.2.2.1 rfl (25 * q + y) (by omega) (by omega) (by decide) dX10_mark_102 ?_
              refine zr_const hx hb dX10_mark_103 ?_
              refine lv_iload_n hx hb dX10_mark_104 rfl (lv_at hl 5 rfl) ?_
              refine zr_shl1 hx hb (by omega) dX10_mark_105 ?_
              refine lv_ior hx hb dX10_mark_106 ?_
              refine pl_iast (x := ((A2 (25 * q + y)) ||| (pw ((x : Int)).toNat))) hx hb hK hP hD hS (hMr8.2.2.2.2.2.2.2.2.2.2.2.1 2 (by decide)) 0 hMr8.2.2.1 rfl (25 * q + y) (by omega) (by omega) (by decide) dX10_mark_107 (fun H locs hP hD hS => ?_)
              have hP : va_P D vwCl (va_pl L (va_up Fr8 (a 2) (.inl (k 0, 100, .inl (upd A2 (25 * q + y) ((A2 (25 * q + y)) ||| (pw ((x : Int)).toNat))))))) H := hP
              have hD : va_D A (va_pl L (va_up Fr8 (a 2) (.inl (k 0, 100, .inl (upd A2 (25 * q + y) ((A2 (25 * q + y)) ||| (pw ((x : Int)).toNat))))))) := hD
              refine lv_iload hx hb dX10_mark_108 (lv_at hl 0 rfl) ?_
              refine zr_ifb_ne (tgt := 117) hx hb dX10_mark_110 (by decide) (fun c12 => ?_) (fun c12 => ?_)
              · refine zr_const hx hb dX10_mark_117 ?_
                rw [hQ]
                refine zr_top (y := bI (!hasB (sR S q) (y : Int) (x : Int))) (by first | exact bI_n0 (mk_had hO hY hq4 (by omega) (by omega) (ite_1 (by assumption))) | exact bI_n1 (mk_had hO hY hq4 (by omega) (by omega) (ite_0 (by assumption)))) ?_
                exact pc_zret hx hb hrt hP (by rw [← hAd]; exact hD) (by rw [← hAd]; exact hS) (⟨rfl, _, _, rfl, (mRep.s2 hMr8 _), mSync.add hO hY hq4 hyx rfl⟩) dX10_mark_118 hlocks
              · exact absurd c12 (by decide)
          · exact absurd c9 (by decide)
      · have hn_c6 := inB_n c6
        exfalso; omega

set_option maxHeartbeats 4000000 in
set_option maxRecDepth 100000 in
theorem kX10_mark_n (l : Launch) (D : va_G) (k : Nat → ClassId) (L : List Nat) (f : Nat → va_E) (S : SA) (hO : aOK S) (a : Nat → Nat) (tw : Int) (A1 A2 A3 A4 A5 A6 A7 A8 A9 A10 : Nat → Int32) (hM : mRep k L f a tw ((sN S)) ((sC S : Int)) A1 A2 A3 A4 A5 A6 A7 A8 A9 A10) (hMT : 0 ≤ tw ∧ tw ≤ 3) (hY : mSync S A1 A2 A3 A4 A5 A6 A7) (z : Int) (hz : -2147483648 ≤ z ∧ z < 2147483648) (y : Int) (hy : -2147483648 ≤ y ∧ y < 2147483648) (x : Int) (hx : -2147483648 ≤ x ∧ x < 2147483648) (kk : Int) (hE : (¬ (0 ≤ z ∧ z < 4) ∧ kk = 1) ∨ ((0 ≤ z ∧ z < 4) ∧ ¬ (0 ≤ y ∧ y < x ∧ x ≤ sN S) ∧ kk = 2)) (n0 sz : Nat) : Met l yX10_mark wsX10_mark ({ frames := 2, cells := 0, slots := 0, locals := 42 } : Room) (va_Pc [.ref (a 0), .int (zI (z)), .int (zI (y)), .int (zI (x))] (pPre D (tyL k) n0 (va_pl L f) sz)) (va_Qi (fun _ u => ∃ F : Nat → va_E, u = va_pl L F ∧ mRep k L F a kk ((sN S)) ((sC S : Int)) A1 A2 A3 A4 A5 A6 A7 A8 A9 A10) (pB D (va_pl L f) sz) (va_A (va_pl L f) sz)) 0 0 (va_A (va_pl L f) sz) := by
  refine Met.ofW (cc := cX10_mark) (maxL := 6) (ret := (some .boolean)) (by decide) rfl ?_
  intro p e s m args below meth c s₁ B hml hv
  obtain ⟨rfl, hsz, hn9, hP, hC, hD0⟩ := hv
  have hK := hC.1
  have hNW := hC.2.1
  have hx := B.exec
  have hb := B.bytes
  have hrt := B.returns
  have hts := atoms_spec (ws := wsX10_mark) B.pre
  have hown : s.vm.findClass RX10 = some m.cls := findClass_of_methodNamed B.named
  have hlocks := B.notSynchronized
  subst hsz
  obtain ⟨A, hAd⟩ : ∃ A, A = va_A (va_pl L f) s.heap.size := ⟨_, rfl⟩
  have hD := hD0.self (sz := s.heap.size)
  rw [← hAd] at hD
  have hA : ∀ q : Nat, s.heap.size ≤ q → A q := fun q h => by rw [hAd]; exact Or.inr h
  have hAn : ∀ q : Nat, A q → n0 ≤ q := fun q h => by
    rw [hAd] at h
    rcases h with ⟨k9, e9, hk9⟩ | h
    · exact hD0.2 k9 _ hk9
    · exact Nat.le_trans hn9 h
  have hS : va_S A s.heap s.heap [] := va_S.rf
  have hi_X10 : ∀ w ∈ u_ws RX10 TX10 13, w ∈ wsX10_mark := by decide +kernel
  have hw_0 := hts (.fieldLink RX10 52 "RegionryModel" "length" "I") (by decide +kernel)
  have hl := lv_entry ([.ref (a 0), .int (zI (z)), .int (zI (y)), .int (zI (x))]) (n := 6) (Nat.le_of_ble_eq_true rfl)
  rw [lg_entry_eq]
  generalize (lg_sl ([.ref (a 0), .int (zI (z)), .int (zI (y)), .int (zI (x))]) ++ List.replicate (6 - (lg_sl ([.ref (a 0), .int (zI (z)), .int (zI (y)), .int (zI (x))])).length) Slot.unset).toArray = ls at hl ⊢
  have hl : lv_has ls 6 [(0, .ref (a 0)), (1, .int (zI (z))), (2, .int (zI (y))), (3, .int (zI (x)))] := hl
  obtain ⟨Q, hQ⟩ : ∃ Q, Q = MQ below (va_Qi (fun _ u => ∃ F : Nat → va_E, u = va_pl L F ∧ mRep k L F a kk ((sN S)) ((sC S : Int)) A1 A2 A3 A4 A5 A6 A7 A8 A9 A10) (pB D (va_pl L f) s.heap.size) (va_A (va_pl L f) s.heap.size)) ([.ref (a 0), .int (zI (z)), .int (zI (y)), .int (zI (x))] : List Value).toArray s 0 0 (va_A (va_pl L f) s.heap.size) := ⟨_, rfl⟩
  rw [← hQ]
  have hMN := hO.1
  have hMC : 0 ≤ (sC S : Int) ∧ (sC S : Int) ≤ 30 := by have h8 := hO.2.2.2.1; omega
  refine lv_iload_n hx hb dX10_mark_0 rfl (lv_at hl 2 rfl) ?_
  refine zr_const hx hb dX10_mark_1 ?_
  refine lv_aload_n hx hb dX10_mark_2 rfl (lv_at hl 0 rfl) ?_
  refine pl_get (ci := 9) (v := .int (zI ((sN S)))) (C := RX10) (T := TX10) (N := 13) hx hb hts hi_X10 hown hK hP (hM.2.2.2.2.2.2.2.2.2.2.2.1 0 (by decide)) hM.1 rfl 2 (by decide) hw_0 (fun _ h9 => h9) rfl dX10_mark_3 ?_
  refine zr_const hx hb dX10_mark_6 ?_
  refine zr_sub hx hb dX10_mark_7 ?_
  refine vp_callSi (va_Run.run (va_runS (As := [.int (zI (y)), .int (zI (0)), .int (zI (((sN S)) - 1))]) (rest := []) ⟨hx, hb, hml, hown, hts⟩ (kX10_in l D k L f (y) (by omega) (0) (by omega) (((sN S)) - 1) (by omega)) (va_cwS 3 hts gX10_mark_X10_in rfl rfl rfl (by decide +kernel) ⟨Nat.le_of_ble_eq_true rfl, Nat.le_of_ble_eq_true rfl⟩) (rc_preS hC hP) rfl rfl hl.1 rfl (lv_room (Nat.le_of_ble_eq_true rfl)) dX10_mark_8 ⟨Nat.zero_le _, Nat.zero_le _⟩)) (fun r1 hr1 => ?_)
  subst hr1
  refine zr_ifb_eq (tgt := 32) hx hb dX10_mark_11 (by decide) (fun c2 => ?_) (fun c2 => ?_)
  · have hn_c2 := inB_n c2
    refine zr_const hx hb dX10_mark_32 ?_
    refine zr_top (y := bI false) (by decide) ?_
    refine lv_istore (lv' := [(4, .int (bI (false))), (0, .ref (a 0)), (1, .int (zI (z))), (2, .int (zI (y))), (3, .int (zI (x)))]) hx hb dX10_mark_33 hl (by decide) rfl (fun ls hl => ?_)
    refine lv_aload_n hx hb dX10_mark_35 rfl (lv_at hl 1 rfl) ?_
    refine lv_iload_n hx hb dX10_mark_36 rfl (lv_at hl 2 rfl) ?_
    refine vp_callSi (va_Run.run (va_runS (As := [.int (zI (z))]) (rest := [.ref (a 0)]) ⟨hx, hb, hml, hown, hts⟩ (kX10_isKind l D k L f (z) (by omega)) (va_cwS 1 hts gX10_mark_X10_isKind rfl rfl rfl (by decide +kernel) ⟨Nat.le_of_ble_eq_true rfl, Nat.le_of_ble_eq_true rfl⟩) (rc_preS hC hP) rfl rfl hl.1 rfl (lv_room (Nat.le_of_ble_eq_true rfl)) dX10_mark_37 ⟨Nat.zero_le _, Nat.zero_le _⟩)) (fun r3 hr3 => ?_)
    subst hr3
    refine zr_ifb_ne (tgt := 47) hx hb dX10_mark_40 (by decide) (fun c4 => ?_) (fun c4 => ?_)
    · have hn_c4 := inB_i c4
      refine lv_iload hx hb dX10_mark_47 (lv_at hl 0 rfl) ?_
      refine zr_ifb_eq (tgt := 56) hx hb dX10_mark_49 (by decide) (fun c5 => ?_) (fun c5 => ?_)
      · refine zr_const hx hb dX10_mark_56 ?_
        refine pc_calli (va_runV (As := [.int (zI (2))]) (rest := []) ⟨hx, hb, hml, hown, hts⟩ (kX10_goesWell l D k L f a tw ((sN S)) ((sC S : Int)) A1 A2 A3 A4 A5 A6 A7 A8 A9 A10 hM (by omega) (by omega) (by omega) (2) (by omega) n0 _) (cwV 1 hts gX10_mark_X10_goesWell rfl rfl rfl (by decide +kernel) ⟨Nat.le_of_ble_eq_true rfl, Nat.le_of_ble_eq_true rfl⟩) (pc_preV hC hP (Nat.le_trans hn9 hS.1) hD hAn (pl_recv hK hP (hM.2.2.2.2.2.2.2.2.2.2.2.1 0 (by decide)) hM.1 (ci := 9) (q := (RX10, TX10, 13)) rfl)) rfl rfl hl.1 rfl (lv_room (Nat.le_of_ble_eq_true rfl)) dX10_mark_57 ⟨Nat.zero_le _, Nat.zero_le _⟩) hD hS hA (fun r6 ur6 H locs hr6 hP hD hS hzr6 => ?_)
        obtain ⟨hvr6, Fr6, hwr6, hMr6⟩ := hr6
        have hvr6 : r6 = bI (decide ((2 : Int) = 0)) := hvr6
        subst hvr6
        have hwr6 : ur6 = va_pl L Fr6 := hwr6
        subst hwr6
        refine zr_ifb_ne (tgt := 65) hx hb dX10_mark_60 (by decide) (fun c7 => ?_) (fun c7 => ?_)
        · exact absurd c7 (by decide)
        · refine zr_const hx hb dX10_mark_63 ?_
          rw [hQ]
          refine zr_top (y := bI (false)) (by decide) ?_
          exact pc_zret hx hb hrt hP (by rw [← hAd]; exact hD) (by rw [← hAd]; exact hS) (⟨_, rfl, by rw [show kk = 2 by omega]; exact hMr6⟩) dX10_mark_64 hlocks
      · exact absurd c5 (by decide)
    · have hn_c4 := inB_n c4
      refine zr_const hx hb dX10_mark_43 ?_
      refine lv_goto (tgt := 57) hx hb dX10_mark_44 (by decide) ?_
      refine pc_calli (va_runV (As := [.int (zI (1))]) (rest := []) ⟨hx, hb, hml, hown, hts⟩ (kX10_goesWell l D k L f a tw ((sN S)) ((sC S : Int)) A1 A2 A3 A4 A5 A6 A7 A8 A9 A10 hM (by omega) (by omega) (by omega) (1) (by omega) n0 _) (cwV 1 hts gX10_mark_X10_goesWell rfl rfl rfl (by decide +kernel) ⟨Nat.le_of_ble_eq_true rfl, Nat.le_of_ble_eq_true rfl⟩) (pc_preV hC hP (Nat.le_trans hn9 hS.1) hD hAn (pl_recv hK hP (hM.2.2.2.2.2.2.2.2.2.2.2.1 0 (by decide)) hM.1 (ci := 9) (q := (RX10, TX10, 13)) rfl)) rfl rfl hl.1 rfl (lv_room (Nat.le_of_ble_eq_true rfl)) dX10_mark_57 ⟨Nat.zero_le _, Nat.zero_le _⟩) hD hS hA (fun r8 ur8 H locs hr8 hP hD hS hzr8 => ?_)
      obtain ⟨hvr8, Fr8, hwr8, hMr8⟩ := hr8
      have hvr8 : r8 = bI (decide ((1 : Int) = 0)) := hvr8
      subst hvr8
      have hwr8 : ur8 = va_pl L Fr8 := hwr8
      subst hwr8
      refine zr_ifb_ne (tgt := 65) hx hb dX10_mark_60 (by decide) (fun c9 => ?_) (fun c9 => ?_)
      · exact absurd c9 (by decide)
      · refine zr_const hx hb dX10_mark_63 ?_
        rw [hQ]
        refine zr_top (y := bI (false)) (by decide) ?_
        exact pc_zret hx hb hrt hP (by rw [← hAd]; exact hD) (by rw [← hAd]; exact hS) (⟨_, rfl, by rw [show kk = 1 by omega]; exact hMr8⟩) dX10_mark_64 hlocks
  · have hn_c2 := inB_i c2
    refine lv_iload_n hx hb dX10_mark_14 rfl (lv_at hl 3 rfl) ?_
    refine lv_iload_n hx hb dX10_mark_15 rfl (lv_at hl 2 rfl) ?_
    refine zr_const hx hb dX10_mark_16 ?_
    refine zr_add hx hb dX10_mark_17 ?_
    refine lv_aload_n hx hb dX10_mark_18 rfl (lv_at hl 0 rfl) ?_
    refine pl_get (ci := 9) (v := .int (zI ((sN S)))) (C := RX10) (T := TX10) (N := 13) hx hb hts hi_X10 hown hK hP (hM.2.2.2.2.2.2.2.2.2.2.2.1 0 (by decide)) hM.1 rfl 2 (by decide) hw_0 (fun _ h9 => h9) rfl dX10_mark_19 ?_
    refine vp_callSi (va_Run.run (va_runS (As := [.int (zI (x)), .int (zI (y + 1)), .int (zI ((sN S)))]) (rest := []) ⟨hx, hb, hml, hown, hts⟩ (kX10_in l D k L f (x) (by omega) (y + 1) (by omega) ((sN S)) (by omega)) (va_cwS 3 hts gX10_mark_X10_in rfl rfl rfl (by decide +kernel) ⟨Nat.le_of_ble_eq_true rfl, Nat.le_of_ble_eq_true rfl⟩) (rc_preS hC hP) rfl rfl hl.1 rfl (lv_room (Nat.le_of_ble_eq_true rfl)) dX10_mark_22 ⟨Nat.zero_le _, Nat.zero_le _⟩)) (fun r10 hr10 => ?_)
    subst hr10
    refine zr_ifb_eq (tgt := 32) hx hb dX10_mark_25 (by decide) (fun c11 => ?_) (fun c11 => ?_)
    · have hn_c11 := inB_n c11
      refine zr_const hx hb dX10_mark_32 ?_
      refine zr_top (y := bI false) (by decide) ?_
      refine lv_istore (lv' := [(4, .int (bI (false))), (0, .ref (a 0)), (1, .int (zI (z))), (2, .int (zI (y))), (3, .int (zI (x)))]) hx hb dX10_mark_33 hl (by decide) rfl (fun ls hl => ?_)
      refine lv_aload_n hx hb dX10_mark_35 rfl (lv_at hl 1 rfl) ?_
      refine lv_iload_n hx hb dX10_mark_36 rfl (lv_at hl 2 rfl) ?_
      refine vp_callSi (va_Run.run (va_runS (As := [.int (zI (z))]) (rest := [.ref (a 0)]) ⟨hx, hb, hml, hown, hts⟩ (kX10_isKind l D k L f (z) (by omega)) (va_cwS 1 hts gX10_mark_X10_isKind rfl rfl rfl (by decide +kernel) ⟨Nat.le_of_ble_eq_true rfl, Nat.le_of_ble_eq_true rfl⟩) (rc_preS hC hP) rfl rfl hl.1 rfl (lv_room (Nat.le_of_ble_eq_true rfl)) dX10_mark_37 ⟨Nat.zero_le _, Nat.zero_le _⟩)) (fun r12 hr12 => ?_)
      subst hr12
      refine zr_ifb_ne (tgt := 47) hx hb dX10_mark_40 (by decide) (fun c13 => ?_) (fun c13 => ?_)
      · have hn_c13 := inB_i c13
        refine lv_iload hx hb dX10_mark_47 (lv_at hl 0 rfl) ?_
        refine zr_ifb_eq (tgt := 56) hx hb dX10_mark_49 (by decide) (fun c14 => ?_) (fun c14 => ?_)
        · refine zr_const hx hb dX10_mark_56 ?_
          refine pc_calli (va_runV (As := [.int (zI (2))]) (rest := []) ⟨hx, hb, hml, hown, hts⟩ (kX10_goesWell l D k L f a tw ((sN S)) ((sC S : Int)) A1 A2 A3 A4 A5 A6 A7 A8 A9 A10 hM (by omega) (by omega) (by omega) (2) (by omega) n0 _) (cwV 1 hts gX10_mark_X10_goesWell rfl rfl rfl (by decide +kernel) ⟨Nat.le_of_ble_eq_true rfl, Nat.le_of_ble_eq_true rfl⟩) (pc_preV hC hP (Nat.le_trans hn9 hS.1) hD hAn (pl_recv hK hP (hM.2.2.2.2.2.2.2.2.2.2.2.1 0 (by decide)) hM.1 (ci := 9) (q := (RX10, TX10, 13)) rfl)) rfl rfl hl.1 rfl (lv_room (Nat.le_of_ble_eq_true rfl)) dX10_mark_57 ⟨Nat.zero_le _, Nat.zero_le _⟩) hD hS hA (fun r15 ur15 H locs hr15 hP hD hS hzr15 => ?_)
          obtain ⟨hvr15, Fr15, hwr15, hMr15⟩ := hr15
          have hvr15 : r15 = bI (decide ((2 : Int) = 0)) := hvr15
          subst hvr15
          have hwr15 : ur15 = va_pl L Fr15 := hwr15
          subst hwr15
          refine zr_ifb_ne (tgt := 65) hx hb dX10_mark_60 (by decide) (fun c16 => ?_) (fun c16 => ?_)
          · exact absurd c16 (by decide)
          · refine zr_const hx hb dX10_mark_63 ?_
            rw [hQ]
            refine zr_top (y := bI (false)) (by decide) ?_
            exact pc_zret hx hb hrt hP (by rw [← hAd]; exact hD) (by rw [← hAd]; exact hS) (⟨_, rfl, by rw [show kk = 2 by omega]; exact hMr15⟩) dX10_mark_64 hlocks
        · exact absurd c14 (by decide)
      · have hn_c13 := inB_n c13
        refine zr_const hx hb dX10_mark_43 ?_
        refine lv_goto (tgt := 57) hx hb dX10_mark_44 (by decide) ?_
        refine pc_calli (va_runV (As := [.int (zI (1))]) (rest := []) ⟨hx, hb, hml, hown, hts⟩ (kX10_goesWell l D k L f a tw ((sN S)) ((sC S : Int)) A1 A2 A3 A4 A5 A6 A7 A8 A9 A10 hM (by omega) (by omega) (by omega) (1) (by omega) n0 _) (cwV 1 hts gX10_mark_X10_goesWell rfl rfl rfl (by decide +kernel) ⟨Nat.le_of_ble_eq_true rfl, Nat.le_of_ble_eq_true rfl⟩) (pc_preV hC hP (Nat.le_trans hn9 hS.1) hD hAn (pl_recv hK hP (hM.2.2.2.2.2.2.2.2.2.2.2.1 0 (by decide)) hM.1 (ci := 9) (q := (RX10, TX10, 13)) rfl)) rfl rfl hl.1 rfl (lv_room (Nat.le_of_ble_eq_true rfl)) dX10_mark_57 ⟨Nat.zero_le _, Nat.zero_le _⟩) hD hS hA (fun r17 ur17 H locs hr17 hP hD hS hzr17 => ?_)
        obtain ⟨hvr17, Fr17, hwr17, hMr17⟩ := hr17
        have hvr17 : r17 = bI (decide ((1 : Int) = 0)) := hvr17
        subst hvr17
        have hwr17 : ur17 = va_pl L Fr17 := hwr17
        subst hwr17
        refine zr_ifb_ne (tgt := 65) hx hb dX10_mark_60 (by decide) (fun c18 => ?_) (fun c18 => ?_)
        · exact absurd c18 (by decide)
        · refine zr_const hx hb dX10_mark_63 ?_
          rw [hQ]
          refine zr_top (y := bI (false)) (by decide) ?_
          exact pc_zret hx hb hrt hP (by rw [← hAd]; exact hD) (by rw [← hAd]; exact hS) (⟨_, rfl, by rw [show kk = 1 by omega]; exact hMr17⟩) dX10_mark_64 hlocks
    · have hn_c11 := inB_i c11
      refine zr_const hx hb dX10_mark_28 ?_
      refine lv_goto (tgt := 33) hx hb dX10_mark_29 (by decide) ?_
      refine zr_top (y := bI true) (by decide) ?_
      refine lv_istore (lv' := [(4, .int (bI (true))), (0, .ref (a 0)), (1, .int (zI (z))), (2, .int (zI (y))), (3, .int (zI (x)))]) hx hb dX10_mark_33 hl (by decide) rfl (fun ls hl => ?_)
      refine lv_aload_n hx hb dX10_mark_35 rfl (lv_at hl 1 rfl) ?_
      refine lv_iload_n hx hb dX10_mark_36 rfl (lv_at hl 2 rfl) ?_
      refine vp_callSi (va_Run.run (va_runS (As := [.int (zI (z))]) (rest := [.ref (a 0)]) ⟨hx, hb, hml, hown, hts⟩ (kX10_isKind l D k L f (z) (by omega)) (va_cwS 1 hts gX10_mark_X10_isKind rfl rfl rfl (by decide +kernel) ⟨Nat.le_of_ble_eq_true rfl, Nat.le_of_ble_eq_true rfl⟩) (rc_preS hC hP) rfl rfl hl.1 rfl (lv_room (Nat.le_of_ble_eq_true rfl)) dX10_mark_37 ⟨Nat.zero_le _, Nat.zero_le _⟩)) (fun r19 hr19 => ?_)
      subst hr19
      refine zr_ifb_ne (tgt := 47) hx hb dX10_mark_40 (by decide) (fun c20 => ?_) (fun c20 => ?_)
      · have hn_c20 := inB_i c20
        refine lv_iload hx hb dX10_mark_47 (lv_at hl 0 rfl) ?_
        refine zr_ifb_eq (tgt := 56) hx hb dX10_mark_49 (by decide) (fun c21 => ?_) (fun c21 => ?_)
        · exact absurd c21 (by decide)
        · refine zr_const hx hb dX10_mark_52 ?_
          refine lv_goto (tgt := 57) hx hb dX10_mark_53 (by decide) ?_
          refine pc_calli (va_runV (As := [.int (zI (0))]) (rest := []) ⟨hx, hb, hml, hown, hts⟩ (kX10_goesWell l D k L f a tw ((sN S)) ((sC S : Int)) A1 A2 A3 A4 A5 A6 A7 A8 A9 A10 hM (by omega) (by omega) (by omega) (0) (by omega) n0 _) (cwV 1 hts gX10_mark_X10_goesWell rfl rfl rfl (by decide +kernel) ⟨Nat.le_of_ble_eq_true rfl, Nat.le_of_ble_eq_true rfl⟩) (pc_preV hC hP (Nat.le_trans hn9 hS.1) hD hAn (pl_recv hK hP (hM.2.2.2.2.2.2.2.2.2.2.2.1 0 (by decide)) hM.1 (ci := 9) (q := (RX10, TX10, 13)) rfl)) rfl rfl hl.1 rfl (lv_room (Nat.le_of_ble_eq_true rfl)) dX10_mark_57 ⟨Nat.zero_le _, Nat.zero_le _⟩) hD hS hA (fun r22 ur22 H locs hr22 hP hD hS hzr22 => ?_)
          obtain ⟨hvr22, Fr22, hwr22, hMr22⟩ := hr22
          have hvr22 : r22 = bI (decide ((0 : Int) = 0)) := hvr22
          subst hvr22
          have hwr22 : ur22 = va_pl L Fr22 := hwr22
          subst hwr22
          refine zr_ifb_ne (tgt := 65) hx hb dX10_mark_60 (by decide) (fun c23 => ?_) (fun c23 => ?_)
          · exfalso; omega
          · exact absurd c23 (by decide)
      · have hn_c20 := inB_n c20
        refine zr_const hx hb dX10_mark_43 ?_
        refine lv_goto (tgt := 57) hx hb dX10_mark_44 (by decide) ?_
        refine pc_calli (va_runV (As := [.int (zI (1))]) (rest := []) ⟨hx, hb, hml, hown, hts⟩ (kX10_goesWell l D k L f a tw ((sN S)) ((sC S : Int)) A1 A2 A3 A4 A5 A6 A7 A8 A9 A10 hM (by omega) (by omega) (by omega) (1) (by omega) n0 _) (cwV 1 hts gX10_mark_X10_goesWell rfl rfl rfl (by decide +kernel) ⟨Nat.le_of_ble_eq_true rfl, Nat.le_of_ble_eq_true rfl⟩) (pc_preV hC hP (Nat.le_trans hn9 hS.1) hD hAn (pl_recv hK hP (hM.2.2.2.2.2.2.2.2.2.2.2.1 0 (by decide)) hM.1 (ci := 9) (q := (RX10, TX10, 13)) rfl)) rfl rfl hl.1 rfl (lv_room (Nat.le_of_ble_eq_true rfl)) dX10_mark_57 ⟨Nat.zero_le _, Nat.zero_le _⟩) hD hS hA (fun r24 ur24 H locs hr24 hP hD hS hzr24 => ?_)
        obtain ⟨hvr24, Fr24, hwr24, hMr24⟩ := hr24
        have hvr24 : r24 = bI (decide ((1 : Int) = 0)) := hvr24
        subst hvr24
        have hwr24 : ur24 = va_pl L Fr24 := hwr24
        subst hwr24
        refine zr_ifb_ne (tgt := 65) hx hb dX10_mark_60 (by decide) (fun c25 => ?_) (fun c25 => ?_)
        · exact absurd c25 (by decide)
        · refine zr_const hx hb dX10_mark_63 ?_
          rw [hQ]
          refine zr_top (y := bI (false)) (by decide) ?_
          exact pc_zret hx hb hrt hP (by rw [← hAd]; exact hD) (by rw [← hAd]; exact hS) (⟨_, rfl, by rw [show kk = 1 by omega]; exact hMr24⟩) dX10_mark_64 hlocks
