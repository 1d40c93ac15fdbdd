theorem nwL_in : ∀ w ∈ nwL, w ∈ lw_tbl := by decide +kernel
theorem nxL_in : ∀ w ∈ nxL, w ∈ lw_tbl := by decide +kernel
theorem strL_in : ∀ q ∈ strL, Cond.stringRef q.1 q.2.1 q.2.2 ∈ lw_tbl := by decide +kernel
theorem strE_in : ∀ q ∈ strL, Cond.exactly (.string q.1 q.2.1) "java/lang/String" ∈ flatC (Jvm.Cond.and given_1 narrow_1) := by decide +kernel
theorem ncL_in : ∀ q ∈ ncL, Cond.not (.castable q.1 q.2) ∈ flatC (Jvm.Cond.and given_1 narrow_1) := by decide +kernel
theorem zq_1 : Cond.isRef (.static Bundle.tN "UNASSIGNED_STACK" Bundle.steD) ∈ flatC (Jvm.Cond.and given_1 narrow_1) := by decide +kernel
theorem zq_2 : Cond.isRef (.static Bundle.tN "SUPPRESSED_SENTINEL" Bundle.listD) ∈ flatC (Jvm.Cond.and given_1 narrow_1) := by decide +kernel
theorem zl_1 : Cond.laysStatic Bundle.tN "UNASSIGNED_STACK" Bundle.steD ∈ lw_tbl := by decide +kernel
theorem zl_2 : Cond.laysStatic Bundle.tN "SUPPRESSED_SENTINEL" Bundle.listD ∈ lw_tbl := by decide +kernel
theorem zi_1 : Cond.initialized Bundle.tN ∈ lw_tbl := by decide +kernel
theorem st_nw {args : Array Value} {s : State} (hts : ∀ w ∈ lw_tbl, w.before args s = true) : NWs s := fun w hw => va_Nw.of (nwL_on w hw) (hts w (nwL_in w hw))
theorem st_xw {args : Array Value} {s : State} (hts : ∀ w ∈ lw_tbl, w.before args s = true) (hgv : (Jvm.Cond.and given_1 narrow_1).before args s = true) : xW s.heap.size s := by
  have hs := flat_of_before _ hgv
  have hA : ∀ a : Nat, a < s.heap.size → ¬ (fun q : Nat => s.heap.size ≤ q) a := fun a h => Nat.not_le.mpr h
  refine ⟨⟨vx_Zqof (hts _ zl_1) (hts _ zi_1) (hs _ zq_1) hA, vx_Zqof (hts _ zl_2) (hts _ zi_1) (hs _ zq_2) hA⟩, fun q hq => ?_, fun q hq => va_Nc.of (hs _ (ncL_in q hq)), fun w hw => va_Nw.of (nxL_on w hw) (hts w (nxL_in w hw))⟩
  obtain ⟨a, c, cell, k, h1, -⟩ := Cond.exactly_spec (hs _ (strE_in q hq))
  exact ⟨a, vk_R.of (hts _ (strL_in q hq)) h1⟩
theorem st_ar {args : Array Value} {s : State} {ty : FieldType} (hn : ∀ C, ty ≠ .object C) (h : (Cond.arrayClass ty).before args s = true) : ∃ c : ClassId, ArrOfT s c ty ∧ va_RA s c ty := by
  obtain ⟨c, kA, comp, h1, h2, h3⟩ := Cond.arrayClass_spec h
  refine ⟨c, fun n z => ⟨fun k h => (by cases h), kA, h2, comp, h3⟩, ?_⟩
  cases ty with
  | object C => exact absurd rfl (hn C)
  | _ => exact h1
theorem st_ao {args : Array Value} {s : State} {C : String} (h : (Cond.arrayOver (.object C)).before args s = true) : ∃ c : ClassId, ArrOfT s c (.object C) ∧ va_RA s c (.object C) := by
  obtain ⟨comp, c, kA, h1, h2, h3, h4, h5⟩ := Cond.arrayOver_spec h
  exact ⟨c, fun n z => ⟨fun k h => (by cases h), kA, h3, comp, h4⟩, kA, comp, h3, h4, h1, h5⟩
theorem ao_1 : Cond.arrayOver (.object RX0) ∈ lw_tbl := by decide +kernel
theorem ao_2 : Cond.arrayOver (.object RX6) ∈ lw_tbl := by decide +kernel
theorem ac_1 : Cond.arrayClass .int ∈ lw_tbl := by decide +kernel
theorem iw_1 : ∀ w ∈ u_ws RX1 TX1 5, w ∈ lw_tbl := by decide +kernel
theorem in_1 : Cond.instantiable RX1 5 ∈ lw_tbl := by decide +kernel
theorem iw_2 : ∀ w ∈ u_ws RX2 TX2 5, w ∈ lw_tbl := by decide +kernel
theorem in_2 : Cond.instantiable RX2 5 ∈ lw_tbl := by decide +kernel
theorem iw_3 : ∀ w ∈ u_ws RX3 TX3 7, w ∈ lw_tbl := by decide +kernel
theorem in_3 : Cond.instantiable RX3 7 ∈ lw_tbl := by decide +kernel
theorem iw_4 : ∀ w ∈ u_ws RX4 TX4 6, w ∈ lw_tbl := by decide +kernel
theorem in_4 : Cond.instantiable RX4 6 ∈ lw_tbl := by decide +kernel
theorem iw_5 : ∀ w ∈ u_ws RX5 TX5 7, w ∈ lw_tbl := by decide +kernel
theorem in_5 : Cond.instantiable RX5 7 ∈ lw_tbl := by decide +kernel
theorem iw_6 : ∀ w ∈ u_ws RX6 TX6 1, w ∈ lw_tbl := by decide +kernel
theorem in_6 : Cond.instantiable RX6 1 ∈ lw_tbl := by decide +kernel
theorem iw_7 : ∀ w ∈ u_ws RX7 TX7 7, w ∈ lw_tbl := by decide +kernel
theorem in_7 : Cond.instantiable RX7 7 ∈ lw_tbl := by decide +kernel
theorem iw_8 : ∀ w ∈ u_ws RX8 TX8 3, w ∈ lw_tbl := by decide +kernel
theorem in_8 : Cond.instantiable RX8 3 ∈ lw_tbl := by decide +kernel
theorem iw_9 : ∀ w ∈ u_ws RX9 TX9 3, w ∈ lw_tbl := by decide +kernel
theorem in_9 : Cond.instantiable RX9 3 ∈ lw_tbl := by decide +kernel
theorem st_ck {args : Array Value} {s : State} (hts : ∀ w ∈ lw_tbl, w.before args s = true) : ∃ (D : va_G) (k : Nat → ClassId), cK D (tyL k) s := by
  obtain ⟨c1, i1, h1⟩ := u_known (C := RX1) (T := TX1) (N := 5) (n := 5) hts iw_1 (hts _ in_1)
  obtain ⟨c2, i2, h2⟩ := u_known (C := RX2) (T := TX2) (N := 5) (n := 5) hts iw_2 (hts _ in_2)
  obtain ⟨c3, i3, h3⟩ := u_known (C := RX3) (T := TX3) (N := 7) (n := 7) hts iw_3 (hts _ in_3)
  obtain ⟨c4, i4, h4⟩ := u_known (C := RX4) (T := TX4) (N := 6) (n := 6) hts iw_4 (hts _ in_4)
  obtain ⟨c5, i5, h5⟩ := u_known (C := RX5) (T := TX5) (N := 7) (n := 7) hts iw_5 (hts _ in_5)
  obtain ⟨c6, i6, h6⟩ := u_known (C := RX6) (T := TX6) (N := 1) (n := 1) hts iw_6 (hts _ in_6)
  obtain ⟨c7, i7, h7⟩ := u_known (C := RX7) (T := TX7) (N := 7) (n := 7) hts iw_7 (hts _ in_7)
  obtain ⟨c8, i8, h8⟩ := u_known (C := RX8) (T := TX8) (N := 3) (n := 3) hts iw_8 (hts _ in_8)
  obtain ⟨c9, i9, h9⟩ := u_known (C := RX9) (T := TX9) (N := 3) (n := 3) hts iw_9 (hts _ in_9)
  obtain ⟨k0, a0, b0⟩ := st_ar (ty := .int) (fun C h => by cases h) (hts _ ac_1)
  obtain ⟨k2, a2, b2⟩ := st_ao (hts _ ao_1)
  obtain ⟨k3, a3, b3⟩ := st_ao (hts _ ao_2)
  refine ⟨(fun q => if q = 0 then c1 else if q = 1 then c2 else if q = 2 then c3 else if q = 3 then c4 else if q = 4 then c5 else if q = 5 then c6 else if q = 6 then c7 else if q = 7 then c8 else c9, fun q => if q = 0 then i1 else if q = 1 then i2 else if q = 2 then i3 else if q = 3 then i4 else if q = 4 then i5 else if q = 5 then i6 else if q = 6 then i7 else if q = 7 then i8 else i9), fun q => if q = 0 then k0 else if q = 1 then k0 else if q = 2 then k2 else k3, ⟨fun q r hq => ?_, fun q r hq => ?_⟩, st_nw hts, va_AO.of (hts _ ao_1), va_AO.of (hts _ ao_2)⟩
  · match q, hq with
    | 0, hq => cases hq; exact h1
    | 1, hq => cases hq; exact h2
    | 2, hq => cases hq; exact h3
    | 3, hq => cases hq; exact h4
    | 4, hq => cases hq; exact h5
    | 5, hq => cases hq; exact h6
    | 6, hq => cases hq; exact h7
    | 7, hq => cases hq; exact h8
    | 8, hq => cases hq; exact h9
    | q + 9, hq => simp [vwCl] at hq
  · match q, hq with
    | 0, hq => cases hq; exact ⟨a0, b0⟩
    | 1, hq => cases hq; exact ⟨a0, b0⟩
    | 2, hq => cases hq; exact ⟨a2, b2⟩
    | 3, hq => cases hq; exact ⟨a3, b3⟩
    | q + 4, hq => simp [tyL] at hq
