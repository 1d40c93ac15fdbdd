/-! expressions of any of the six classes: the four fields that they share -/
def exC (ci : Nat) : Prop := ci = 0 ∨ ci = 1 ∨ ci = 2 ∨ ci = 3 ∨ ci = 4 ∨ ci = 6
def exAt (f : Nat → va_E) (a : Nat) (d n : Int32) (gs as : Nat) : Prop := ∃ (ci : Nat) (rest : List Value), exC ci ∧ f a = .inr (ci, .int d :: .int n :: .ref gs :: .ref as :: rest)
theorem exAt.up {f : Nat → va_E} {a b : Nat} {e : va_E} {d n : Int32} {gs as : Nat} (hne : a ≠ b) (h : exAt f a d n gs as) : exAt (va_up f b e) a d n gs as := by
  obtain ⟨ci, rest, h1, h2⟩ := h
  exact ⟨ci, rest, h1, (va_up_ne _ _ hne).trans h2⟩
theorem exAt.of {f F : Nat → va_E} {a : Nat} {d n : Int32} {gs as : Nat} (e : F a = f a) (h : exAt f a d n gs as) : exAt F a d n gs as := by
  obtain ⟨ci, rest, h1, h2⟩ := h
  exact ⟨ci, rest, h1, e.trans h2⟩
theorem ex_ne {f : Nat → va_E} {a b : Nat} {d n : Int32} {gs as : Nat} {x : ClassId × vp_A} (h : exAt f a d n gs as) (hb : f b = .inl x) : a ≠ b := by
  obtain ⟨ci, rest, h1, h2⟩ := h
  exact ne_k h2 hb (by simp)
section RE
variable {p : Program} {l : Launch} {e : Env} {R : Room} {s : State} {m : MethodId} {args : Array Value} {below : List Frame} {meth : Method} {c : Code} {H : Heap} {locs : List Loc} {cells slots : Nat} {Q : State → Prop} {cc : ByteArray} {pc : Nat} {ls : Array Slot} {rest : List Value} {D : va_G} {TY : List (ClassId × FieldType)} {A : Nat → Prop} {H0 : Heap} {L : List Nat} {f : Nat → va_E} {a b n0 : Nat} {ws : va_W} {av As : List Value} {C : String}
theorem pl_getE (hexec : p.tables.exec = Jvm.exec) (hb : c.code = cc) {own : String} {index : Nat} {Ts : List Cond} {v : Value} (hts : ∀ w ∈ Ts, w.before args s = true) (hi1 : ∀ w ∈ u_ws RX1 TX1 5, w ∈ Ts) (hi2 : ∀ w ∈ u_ws RX2 TX2 5, w ∈ Ts) (hi3 : ∀ w ∈ u_ws RX3 TX3 7, w ∈ Ts) (hi4 : ∀ w ∈ u_ws RX4 TX4 6, w ∈ Ts) (hi5 : ∀ w ∈ u_ws RX5 TX5 7, w ∈ Ts) (hi7 : ∀ w ∈ u_ws RX7 TX7 7, w ∈ Ts) (hown : s.vm.findClass own = some m.cls) (hK : va_K D vwCl TY s) (hP : va_P D vwCl (va_pl L f) H) (ha : a ∈ L) {d n : Int32} {gs as : Nat} (he : exAt f a d n gs as) (k : Nat) (hk : k < 4) (hlink : (Cond.fieldLink own index "Regionry$Expression" (TX1 k).2.1 (TX1 k).2.2.1).before args s = true) (hv : ([.int d, .int n, .ref gs, .ref as] : List Value)[k]? = some v) (hdg : decode cc pc = .ok (.getfield index, 3)) (kk : W p l e R s m args below meth c H locs cells slots Q (F0 m (pc + 3) ls (v :: rest))) : W p l e R s m args below meth c H locs cells slots Q (F0 m pc ls (.ref a :: rest)) := by
  obtain ⟨ci, rs, h1, h2⟩ := he
  have hv : (.int d :: .int n :: .ref gs :: .ref as :: rs : List Value)[k]? = some v := by
    rcases (show k = 0 ∨ k = 1 ∨ k = 2 ∨ k = 3 by omega) with rfl | rfl | rfl | rfl <;> exact hv
  rcases h1 with rfl | rfl | rfl | rfl | rfl | rfl
  · rcases (show k = 0 ∨ k = 1 ∨ k = 2 ∨ k = 3 by omega) with rfl | rfl | rfl | rfl <;> exact pl_get (ci := 0) (C := RX1) (T := TX1) (N := 5) hexec hb hts hi1 hown hK hP ha h2 rfl _ (by decide) hlink (fun _ h9 => h9) hv hdg kk
  · rcases (show k = 0 ∨ k = 1 ∨ k = 2 ∨ k = 3 by omega) with rfl | rfl | rfl | rfl <;> exact pl_get (ci := 1) (C := RX2) (T := TX2) (N := 5) hexec hb hts hi2 hown hK hP ha h2 rfl _ (by decide) hlink (fun _ h9 => h9) hv hdg kk
  · rcases (show k = 0 ∨ k = 1 ∨ k = 2 ∨ k = 3 by omega) with rfl | rfl | rfl | rfl <;> exact pl_get (ci := 2) (C := RX3) (T := TX3) (N := 7) hexec hb hts hi3 hown hK hP ha h2 rfl _ (by decide) hlink (fun _ h9 => h9) hv hdg kk
  · rcases (show k = 0 ∨ k = 1 ∨ k = 2 ∨ k = 3 by omega) with rfl | rfl | rfl | rfl <;> exact pl_get (ci := 3) (C := RX4) (T := TX4) (N := 6) hexec hb hts hi4 hown hK hP ha h2 rfl _ (by decide) hlink (fun _ h9 => h9) hv hdg kk
  · rcases (show k = 0 ∨ k = 1 ∨ k = 2 ∨ k = 3 by omega) with rfl | rfl | rfl | rfl <;> exact pl_get (ci := 4) (C := RX5) (T := TX5) (N := 7) hexec hb hts hi5 hown hK hP ha h2 rfl _ (by decide) hlink (fun _ h9 => h9) hv hdg kk
  · rcases (show k = 0 ∨ k = 1 ∨ k = 2 ∨ k = 3 by omega) with rfl | rfl | rfl | rfl <;> exact pl_get (ci := 6) (C := RX7) (T := TX7) (N := 7) hexec hb hts hi7 hown hK hP ha h2 rfl _ (by decide) hlink (fun _ h9 => h9) hv hdg kk
theorem pl_putE (hexec : p.tables.exec = Jvm.exec) (hb : c.code = cc) {index ci : Nat} {Ts : List Cond} {v v0 v1 v2 v3 : Value} {ty : FieldType} {rs : List Value} (hts : ∀ w ∈ Ts, w.before args s = true) (hi1 : ∀ w ∈ u_ws RX1 TX1 5, w ∈ Ts) (hi2 : ∀ w ∈ u_ws RX2 TX2 5, w ∈ Ts) (hi3 : ∀ w ∈ u_ws RX3 TX3 7, w ∈ Ts) (hi4 : ∀ w ∈ u_ws RX4 TX4 6, w ∈ Ts) (hi5 : ∀ w ∈ u_ws RX5 TX5 7, w ∈ Ts) (hi7 : ∀ w ∈ u_ws RX7 TX7 7, w ∈ Ts) (hown : s.vm.findClass RX0 = some m.cls) (hK : va_K D vwCl TY s) (hP : va_P D vwCl (va_pl L f) H) (hD : va_D A (va_pl L f)) (hS0 : va_S A H0 H locs) (ha : a ∈ L) (hc : exC ci) (he : f a = .inr (ci, v0 :: v1 :: v2 :: v3 :: rs)) (k : Nat) (hk : k < 4) (hlink : (Cond.fieldLink RX0 index "Regionry$Expression" (TX1 k).2.1 (TX1 k).2.2.1).before args s = true) (hin2 : meth.name = "<init>") (hd : parseFieldDescriptor (TX1 k).2.2.1 = some ty) (hn : narrow ty v = v) (hfit : fits ty v = true) (hdg : decode cc pc = .ok (.putfield index, 3))
    (kk : ∀ (H1 : Heap) (locs1 : List Loc), va_P D vwCl (va_pl L (va_up f a (.inr (ci, (v0 :: v1 :: v2 :: v3 :: rs).set k v)))) H1 → va_D A (va_pl L (va_up f a (.inr (ci, (v0 :: v1 :: v2 :: v3 :: rs).set k v)))) → va_S A H0 H1 locs1 → W p l e R s m args below meth c H1 locs1 cells slots Q (F0 m (pc + 3) ls rest)) : W p l e R s m args below meth c H locs cells slots Q (F0 m pc ls (v :: .ref a :: rest)) := by
  rcases hc with rfl | rfl | rfl | rfl | rfl | rfl
  · rcases (show k = 0 ∨ k = 1 ∨ k = 2 ∨ k = 3 by omega) with rfl | rfl | rfl | rfl
    · exact pl_putF (ci := 0) (C := RX1) (T := TX1) (N := 5) (own := RX0) hexec hb hts hi1 tyX1 tyX1_ok nmX1 hown hK hP hD hS0 ha he rfl 0 (by decide) hlink (fun _ h9 => h9) rfl hin2 rfl hd hn hfit (by simp) hdg kk
    · exact pl_putF (ci := 0) (C := RX1) (T := TX1) (N := 5) (own := RX0) hexec hb hts hi1 tyX1 tyX1_ok nmX1 hown hK hP hD hS0 ha he rfl 1 (by decide) hlink (fun _ h9 => h9) rfl hin2 rfl hd hn hfit (by simp) hdg kk
    · exact pl_putF (ci := 0) (C := RX1) (T := TX1) (N := 5) (own := RX0) hexec hb hts hi1 tyX1 tyX1_ok nmX1 hown hK hP hD hS0 ha he rfl 2 (by decide) hlink (fun _ h9 => h9) rfl hin2 rfl hd hn hfit (by simp) hdg kk
    · exact pl_putF (ci := 0) (C := RX1) (T := TX1) (N := 5) (own := RX0) hexec hb hts hi1 tyX1 tyX1_ok nmX1 hown hK hP hD hS0 ha he rfl 3 (by decide) hlink (fun _ h9 => h9) rfl hin2 rfl hd hn hfit (by simp) hdg kk
  · rcases (show k = 0 ∨ k = 1 ∨ k = 2 ∨ k = 3 by omega) with rfl | rfl | rfl | rfl
    · exact pl_putF (ci := 1) (C := RX2) (T := TX2) (N := 5) (own := RX0) hexec hb hts hi2 tyX2 tyX2_ok nmX2 hown hK hP hD hS0 ha he rfl 0 (by decide) hlink (fun _ h9 => h9) rfl hin2 rfl hd hn hfit (by simp) hdg kk
    · exact pl_putF (ci := 1) (C := RX2) (T := TX2) (N := 5) (own := RX0) hexec hb hts hi2 tyX2 tyX2_ok nmX2 hown hK hP hD hS0 ha he rfl 1 (by decide) hlink (fun _ h9 => h9) rfl hin2 rfl hd hn hfit (by simp) hdg kk
    · exact pl_putF (ci := 1) (C := RX2) (T := TX2) (N := 5) (own := RX0) hexec hb hts hi2 tyX2 tyX2_ok nmX2 hown hK hP hD hS0 ha he rfl 2 (by decide) hlink (fun _ h9 => h9) rfl hin2 rfl hd hn hfit (by simp) hdg kk
    · exact pl_putF (ci := 1) (C := RX2) (T := TX2) (N := 5) (own := RX0) hexec hb hts hi2 tyX2 tyX2_ok nmX2 hown hK hP hD hS0 ha he rfl 3 (by decide) hlink (fun _ h9 => h9) rfl hin2 rfl hd hn hfit (by simp) hdg kk
  · rcases (show k = 0 ∨ k = 1 ∨ k = 2 ∨ k = 3 by omega) with rfl | rfl | rfl | rfl
    · exact pl_putF (ci := 2) (C := RX3) (T := TX3) (N := 7) (own := RX0) hexec hb hts hi3 tyX3 tyX3_ok nmX3 hown hK hP hD hS0 ha he rfl 0 (by decide) hlink (fun _ h9 => h9) rfl hin2 rfl hd hn hfit (by simp) hdg kk
    · exact pl_putF (ci := 2) (C := RX3) (T := TX3) (N := 7) (own := RX0) hexec hb hts hi3 tyX3 tyX3_ok nmX3 hown hK hP hD hS0 ha he rfl 1 (by decide) hlink (fun _ h9 => h9) rfl hin2 rfl hd hn hfit (by simp) hdg kk
    · exact pl_putF (ci := 2) (C := RX3) (T := TX3) (N := 7) (own := RX0) hexec hb hts hi3 tyX3 tyX3_ok nmX3 hown hK hP hD hS0 ha he rfl 2 (by decide) hlink (fun _ h9 => h9) rfl hin2 rfl hd hn hfit (by simp) hdg kk
    · exact pl_putF (ci := 2) (C := RX3) (T := TX3) (N := 7) (own := RX0) hexec hb hts hi3 tyX3 tyX3_ok nmX3 hown hK hP hD hS0 ha he rfl 3 (by decide) hlink (fun _ h9 => h9) rfl hin2 rfl hd hn hfit (by simp) hdg kk
  · rcases (show k = 0 ∨ k = 1 ∨ k = 2 ∨ k = 3 by omega) with rfl | rfl | rfl | rfl
    · exact pl_putF (ci := 3) (C := RX4) (T := TX4) (N := 6) (own := RX0) hexec hb hts hi4 tyX4 tyX4_ok nmX4 hown hK hP hD hS0 ha he rfl 0 (by decide) hlink (fun _ h9 => h9) rfl hin2 rfl hd hn hfit (by simp) hdg kk
    · exact pl_putF (ci := 3) (C := RX4) (T := TX4) (N := 6) (own := RX0) hexec hb hts hi4 tyX4 tyX4_ok nmX4 hown hK hP hD hS0 ha he rfl 1 (by decide) hlink (fun _ h9 => h9) rfl hin2 rfl hd hn hfit (by simp) hdg kk
    · exact pl_putF (ci := 3) (C := RX4) (T := TX4) (N := 6) (own := RX0) hexec hb hts hi4 tyX4 tyX4_ok nmX4 hown hK hP hD hS0 ha he rfl 2 (by decide) hlink (fun _ h9 => h9) rfl hin2 rfl hd hn hfit (by simp) hdg kk
    · exact pl_putF (ci := 3) (C := RX4) (T := TX4) (N := 6) (own := RX0) hexec hb hts hi4 tyX4 tyX4_ok nmX4 hown hK hP hD hS0 ha he rfl 3 (by decide) hlink (fun _ h9 => h9) rfl hin2 rfl hd hn hfit (by simp) hdg kk
  · rcases (show k = 0 ∨ k = 1 ∨ k = 2 ∨ k = 3 by omega) with rfl | rfl | rfl | rfl
    · exact pl_putF (ci := 4) (C := RX5) (T := TX5) (N := 7) (own := RX0) hexec hb hts hi5 tyX5 tyX5_ok nmX5 hown hK hP hD hS0 ha he rfl 0 (by decide) hlink (fun _ h9 => h9) rfl hin2 rfl hd hn hfit (by simp) hdg kk
    · exact pl_putF (ci := 4) (C := RX5) (T := TX5) (N := 7) (own := RX0) hexec hb hts hi5 tyX5 tyX5_ok nmX5 hown hK hP hD hS0 ha he rfl 1 (by decide) hlink (fun _ h9 => h9) rfl hin2 rfl hd hn hfit (by simp) hdg kk
    · exact pl_putF (ci := 4) (C := RX5) (T := TX5) (N := 7) (own := RX0) hexec hb hts hi5 tyX5 tyX5_ok nmX5 hown hK hP hD hS0 ha he rfl 2 (by decide) hlink (fun _ h9 => h9) rfl hin2 rfl hd hn hfit (by simp) hdg kk
    · exact pl_putF (ci := 4) (C := RX5) (T := TX5) (N := 7) (own := RX0) hexec hb hts hi5 tyX5 tyX5_ok nmX5 hown hK hP hD hS0 ha he rfl 3 (by decide) hlink (fun _ h9 => h9) rfl hin2 rfl hd hn hfit (by simp) hdg kk
  · rcases (show k = 0 ∨ k = 1 ∨ k = 2 ∨ k = 3 by omega) with rfl | rfl | rfl | rfl
    · exact pl_putF (ci := 6) (C := RX7) (T := TX7) (N := 7) (own := RX0) hexec hb hts hi7 tyX7 tyX7_ok nmX7 hown hK hP hD hS0 ha he rfl 0 (by decide) hlink (fun _ h9 => h9) rfl hin2 rfl hd hn hfit (by simp) hdg kk
    · exact pl_putF (ci := 6) (C := RX7) (T := TX7) (N := 7) (own := RX0) hexec hb hts hi7 tyX7 tyX7_ok nmX7 hown hK hP hD hS0 ha he rfl 1 (by decide) hlink (fun _ h9 => h9) rfl hin2 rfl hd hn hfit (by simp) hdg kk
    · exact pl_putF (ci := 6) (C := RX7) (T := TX7) (N := 7) (own := RX0) hexec hb hts hi7 tyX7 tyX7_ok nmX7 hown hK hP hD hS0 ha he rfl 2 (by decide) hlink (fun _ h9 => h9) rfl hin2 rfl hd hn hfit (by simp) hdg kk
    · exact pl_putF (ci := 6) (C := RX7) (T := TX7) (N := 7) (own := RX0) hexec hb hts hi7 tyX7 tyX7_ok nmX7 hown hK hP hD hS0 ha he rfl 3 (by decide) hlink (fun _ h9 => h9) rfl hin2 rfl hd hn hfit (by simp) hdg kk
end RE
