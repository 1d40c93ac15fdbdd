section MO
variable {p : Program} {l : Launch} {e : Env} {R : Room} {s : State} {m : MethodId} {args : Array Value} {below : List Frame} {meth : Method} {c : Code} {H : Heap} {locs : List Loc} {cells slots : Nat} {Q : State → Prop} {cc : ByteArray} {pc : Nat} {ls : Array Slot} {rest : List Value} {D : va_G} {TY : List (ClassId × FieldType)} {A : Nat → Prop} {H0 : Heap} {L : List Nat} {f : Nat → va_E} {a : Nat}
theorem pl_zald (hexec : p.tables.exec = Jvm.exec) (hb : c.code = cc) (hK : va_K D vwCl TY s) (hP : va_P D vwCl (va_pl L f) H) (ha : a ∈ L) (t0 : Nat) {cA : ClassId} {n : Nat} {g : Nat → Int32} (he : f a = .inl (cA, n, .inl g)) (ht : TY[t0]? = some (cA, .boolean)) {z : Int} (j : Nat) (hz : z = j) (hj : j < n) (hn : n < 2147483648) (hdg : decode cc pc = .ok (.baload, 1)) (kk : W p l e R s m args below meth c H locs cells slots Q (F0 m (pc + 1) ls (.int (g j) :: rest))) : W p l e R s m args below meth c H locs cells slots Q (F0 m pc ls (.int (zI z) :: .ref a :: rest)) := by
  obtain ⟨q0, hq⟩ := pl_k ha he
  refine va_zald hexec hb hK hP q0 t0 hq ht (zI_in (by omega) hn) hdg ?_
  rw [zI_cl (by omega), hz, Int.toNat_natCast]
  exact kk
theorem pl_zast (hexec : p.tables.exec = Jvm.exec) (hb : c.code = cc) (hK : va_K D vwCl TY s) (hP : va_P D vwCl (va_pl L f) H) (hD : va_D A (va_pl L f)) (hS : va_S A H0 H locs) (ha : a ∈ L) (t0 : Nat) {cA : ClassId} {n : Nat} {g : Nat → Int32} (he : f a = .inl (cA, n, .inl g)) (ht : TY[t0]? = some (cA, .boolean)) {z : Int} {x : Int32} (hx : vp_nar .boolean x = x) (j : Nat) (hz : z = j) (hj : j < n) (hn : n < 2147483648) (hdg : decode cc pc = .ok (.bastore, 1))
    (kk : ∀ (H1 : Heap) (locs1 : List Loc), va_P D vwCl (va_pl L (va_up f a (.inl (cA, n, .inl (upd g j x))))) H1 → va_D A (va_pl L (va_up f a (.inl (cA, n, .inl (upd g j x))))) → va_S A H0 H1 locs1 → W p l e R s m args below meth c H1 locs1 cells slots Q (F0 m (pc + 1) ls rest)) : W p l e R s m args below meth c H locs cells slots Q (F0 m pc ls (.int x :: .int (zI z) :: .ref a :: rest)) := by
  obtain ⟨q0, hq⟩ := pl_k ha he
  refine va_zast hexec hb hK hP hD hS q0 t0 hq ht (zI_in (by omega) hn) hdg ?_
  rw [zI_cl (by omega), hz, Int.toNat_natCast, hx, pl_set hD ha he hq]
  exact kk
theorem pl_newz (hexec : p.tables.exec = Jvm.exec) (hb : c.code = cc) (harr : (Cond.arrayClass .boolean).before args s = true) (t0 : Nat) {cI : ClassId} (ht : TY[t0]? = some (cI, .boolean)) (hK : va_K D vwCl TY s) (hP : va_P D vwCl (va_pl L f) H) (hD : va_D A (va_pl L f)) (hS : va_S A H0 H locs) (hA : ∀ q, H0.size ≤ q → A q) {z : Int} (n : Nat) (hz : z = n) (hn : n < 100000) (hcells : cells + 1 ≤ R.cells) (hslots : slots + n ≤ R.slots) (hdg : decode cc pc = .ok (.newarray .boolean, 2))
    (kk : ∀ (q : Nat) (H1 : Heap), q ∉ L → va_P D vwCl (va_pl (L ++ [q]) (va_up f q (.inl (cI, n, .inl (fun _ => 0))))) H1 → va_D A (va_pl (L ++ [q]) (va_up f q (.inl (cI, n, .inl (fun _ => 0))))) → va_S A H0 H1 locs → W p l e R s m args below meth c H1 locs (cells + 1) (slots + n) Q (F0 m (pc + 2) ls (.ref q :: rest))) : W p l e R s m args below meth c H locs cells slots Q (F0 m pc ls (.int (zI z) :: rest)) :=
  va_newa (atype := .boolean) (ty := .boolean) (a0 := (n, .inl (fun _ => 0))) hexec hb harr rfl hK hP hD hS hA (fun cA => rfl) (by rw [zI_lt0 (by omega)]; omega) (by rw [zI_cl (by omega), hz, Int.toNat_natCast]) (by show n * 1 ≤ _; omega) hcells hslots hdg (fun q cA H1 hK1 h1 h2 h3 => by
    have hq := pl_new h2
    have hc : cA = cI := ty_i hK1 (t0 := t0) (t1 := TY.length) (by rw [List.getElem?_append_left (by exact (List.getElem?_eq_some_iff.mp ht).1)]; exact ht) (by simp)
    subst hc
    rw [va_pl_push hq] at h1 h2
    exact kk q H1 hq h1 h2 h3)
end MO
