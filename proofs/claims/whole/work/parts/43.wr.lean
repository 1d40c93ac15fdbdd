section TW
variable {p : Program} {l : Launch} {e : Env} {R : Room} {s : State} {m : MethodId} {args : Array Value} {below : List Frame} {meth : Method} {c : Code} {H : Heap} {locs : List Loc} {cells slots : Nat} {Q : State → Prop} {cc : ByteArray} {pc : Nat} {ls : Array Slot} {rest st0 : List Value} {D : va_G} {cl : List vw_C} {A : Nat → Prop} {H0 H1 : Heap} {X Y X1 ws : va_W} {k : Nat → ClassId} {cL : ClassId} {o mc ms : Nat} {gl : Nat → Int64}
abbrev TYL (k : Nat → ClassId) (cL : ClassId) : List (ClassId × FieldType) := [(k 0, .int), (k 1, .boolean), (k 2, .object RX0), (k 3, .object RX6), (cL, .long)]
theorem cK.sub4 {U : State} (h : cK D (TYL k cL) U) : cK D (tyL k) U := ⟨h.1.sub [0, 1, 2, 3] rfl, h.2⟩
theorem tw_lk {q : Nat × va_E} {i : Nat} (h : X[i]? = some q) : (X ++ Y)[i]? = some q := by
  rw [List.getElem?_append_left (List.getElem?_eq_some_iff.mp h).1]; exact h
theorem tw_rk {q : Nat × va_E} {i : Nat} (h : Y[i]? = some q) : (X ++ Y)[X.length + i]? = some q := by
  rw [List.getElem?_append_right (Nat.le_add_right _ _), Nat.add_sub_cancel_left]; exact h
theorem vaP_l (h : va_P D cl (X ++ Y) H) : va_P D cl X H := fun i q hq => h i q (tw_lk hq)
theorem vaP_r (h : va_P D cl (X ++ Y) H) : va_P D cl Y H := fun i q hq => h _ q (tw_rk hq)
theorem vaD_l (h : va_D A (X ++ Y)) : va_D A X := ⟨fun i j p q hi hj e => h.1 i j p q (tw_lk hi) (tw_lk hj) e, fun i q hq => h.2 i q (tw_lk hq)⟩
theorem vaD_r (h : va_D A (X ++ Y)) : va_D A Y := ⟨fun i j p q hi hj e => by have := h.1 _ _ p q (tw_rk hi) (tw_rk hj) e; omega, fun i q hq => h.2 _ q (tw_rk hq)⟩
theorem tw_swapP (h : va_P D cl (X ++ Y) H) : va_P D cl (Y ++ X) H := va_P.app (vaP_r h) (vaP_l h)
theorem tw_swapD (h : va_D A (X ++ Y)) : va_D A (Y ++ X) := va_D.app (vaD_r h) (vaD_l h) (fun i j p q hi hj e => by
  have h1 := h.1 _ _ q p (tw_lk hj) (tw_rk hi) e.symm
  have h2 := (List.getElem?_eq_some_iff.mp hj).1
  omega)
theorem tw_join {A0 : Nat → Prop} (hP : va_P D cl (X ++ Y) H) (hD : va_D A0 (X ++ Y)) (hk : ∀ q : Nat, q < H.size → ¬ va_A X H.size q → H1[q]? = H[q]?) (hF : ∀ q, va_A X H.size q → A0 q) (hP1 : va_P D cl X1 H1) (hD1 : va_D (va_A X H.size) X1) : va_P D cl (X1 ++ Y) H1 ∧ va_D A0 (X1 ++ Y) := by
  have apart : ∀ (i : Nat) (q : Nat × va_E), Y[i]? = some q → q.1 < H.size ∧ ¬ va_A X H.size q.1 := by
    intro i q hq
    have h2 := tw_rk (X := X) hq
    have hl := (hP _ q h2).lt
    refine ⟨hl, fun h => ?_⟩
    rcases h with ⟨k2, e, h⟩ | h
    · have hij := hD.1 _ _ q (q.1, e) h2 (tw_lk h) rfl
      have := (List.getElem?_eq_some_iff.mp h).1
      omega
    · omega
  refine ⟨va_P.app hP1 (fun i q hq => ?_), va_D.app (hD1.weaken (fun i q _ h => hF q.1 h)) (vaD_r hD) (fun i j x y hx hy hxy => ?_)⟩
  · obtain ⟨g1, g2⟩ := apart i q hq
    exact ((vaP_r hP) i q hq).kept (hk q.1 g1 g2)
  · refine (apart j y hy).2 ?_
    rw [← hxy]
    exact hD1.2 i x hx
theorem set_end (X : va_W) (a b : Nat × va_E) : (X ++ [a]).set X.length b = X ++ [b] := by
  induction X with
  | nil => rfl
  | cons x X ih => show x :: (X ++ [a]).set X.length b = x :: (X ++ [b]); rw [ih]
/-- a call of a method whose world is the first part of ours -/
theorem wr_calli {post : Int32 → va_W → Prop} {av : Array Value} (hr : va_Run p l e R s m args below meth c H locs cells slots mc ms (F0 m pc ls st0) rest (va_Qi post (pB D X H.size) (va_A X H.size) av) (va_A X H.size)) (hP : va_P D vwCl (X ++ Y) H) (hD : va_D A (X ++ Y)) (hS : va_S A H0 H locs) (hA : ∀ q, H0.size ≤ q → A q)
    (kk : ∀ (r : Int32) (u : va_W) (H1 : Heap) (locs1 : List Loc), post r u → va_P D vwCl (u ++ Y) H1 → va_D A (u ++ Y) → va_S A H0 H1 locs1 → H.size ≤ H1.size → W p l e R s m args below meth c H1 locs1 (cells + mc) (slots + ms) Q (F0 m (pc + 3) ls (.int r :: rest))) : W p l e R s m args below meth c H locs cells slots Q (F0 m pc ls st0) := by
  have hF := pc_free (vaD_l hD) hS hA
  refine va_calli hr hS (fun q _ h => hF q h) hF (fun r u t H1 locs1 ht hvm hp hB hz hk hS1 => ?_)
  obtain ⟨hP1, hD1⟩ := tw_join hP hD hk hF (by rw [← ht]; exact hB.1) hB.2
  exact kk r u H1 locs1 hp hP1 hD1 hS1 hz
theorem wr_callv {post : va_W → Prop} {av : Array Value} (hr : va_Run p l e R s m args below meth c H locs cells slots mc ms (F0 m pc ls st0) rest (va_Qv post (pB D X H.size) (va_A X H.size) av) (va_A X H.size)) (hP : va_P D vwCl (X ++ Y) H) (hD : va_D A (X ++ Y)) (hS : va_S A H0 H locs) (hA : ∀ q, H0.size ≤ q → A q)
    (kk : ∀ (u : va_W) (H1 : Heap) (locs1 : List Loc), post u → va_P D vwCl (u ++ Y) H1 → va_D A (u ++ Y) → va_S A H0 H1 locs1 → H.size ≤ H1.size → W p l e R s m args below meth c H1 locs1 (cells + mc) (slots + ms) Q (F0 m (pc + 3) ls rest)) : W p l e R s m args below meth c H locs cells slots Q (F0 m pc ls st0) := by
  have hF := pc_free (vaD_l hD) hS hA
  refine va_callv hr hS (fun q _ h => hF q h) hF (fun u t H1 locs1 ht hvm hp hB hz hk hS1 => ?_)
  obtain ⟨hP1, hD1⟩ := tw_join hP hD hk hF (by rw [← ht]; exact hB.1) hB.2
  exact kk u H1 locs1 hp hP1 hD1 hS1 hz
/-- a call that throws -/
theorem wr_callx {cond : String → va_W → Prop} {av : Array Value} (hr : vx_Run p l e R s m args below meth c H locs cells slots mc ms (F0 m pc ls st0) rest (va_Qv (fun _ => False) (pB D X H.size) (va_A X H.size) av) (xX D X H.size cond) (va_A X H.size)) (hP : va_P D vwCl (X ++ Y) H) (hD : va_D A (X ++ Y)) (hS : va_S A H0 H locs) (hA : ∀ q, H0.size ≤ q → A q)
    (kk : ∀ (E : String) (ce : Cell) (q9 : Addr) (u : va_W) (H1 : Heap) (locs1 : List Loc), cond E u → va_P D vwCl (u ++ Y) H1 → va_D A (u ++ Y) → va_S A H0 H1 locs1 → H1[q9]? = some ce → ce.vm = .none → s.vm.findClass E = some ce.cls → vx_W p l e R s m args below meth c H1 locs1 (cells + mc) (slots + ms) Q (F0 m pc ls rest) q9) : W p l e R s m args below meth c H locs cells slots Q (F0 m pc ls st0) := by
  have hF := pc_free (vaD_l hD) hS hA
  refine vx_callv hr hS (fun q _ h => hF q h) hF (fun q _ h => hF q h) (fun E ce q9 u t H1 locs1 ht hvm hp hB hz hk1 hS1 hcell hv hcl => ?_) (fun u t H1 locs1 ht hvm hp => absurd hp id)
  obtain ⟨hP1, hD1⟩ := tw_join hP hD hk1 hF (by rw [← ht]; exact hB.2.1) hB.2.2
  exact kk E ce q9 u H1 locs1 hB.1 hP1 hD1 hS1 hcell hv hcl
/-- a call of a wrapper, which never throws -/
theorem wr_callw {post : Int32 → va_W → Prop} {av : Array Value} {BX : String → va_W → State → Prop} (hr : vx_Run p l e R s m args below meth c H locs cells slots mc ms (F0 m pc ls st0) rest (va_Qi post (pB D X H.size) (va_A X H.size) av) (vx_X (fun _ : va_W => False) BX (va_A X H.size)) (va_A X H.size)) (hP : va_P D vwCl (X ++ Y) H) (hD : va_D A (X ++ Y)) (hS : va_S A H0 H locs) (hA : ∀ q, H0.size ≤ q → A q)
    (kk : ∀ (r : Int32) (u : va_W) (H1 : Heap) (locs1 : List Loc), post r u → va_P D vwCl (u ++ Y) H1 → va_D A (u ++ Y) → va_S A H0 H1 locs1 → H.size ≤ H1.size → W p l e R s m args below meth c H1 locs1 (cells + mc) (slots + ms) Q (F0 m (pc + 3) ls (.int r :: rest))) : W p l e R s m args below meth c H locs cells slots Q (F0 m pc ls st0) := by
  have hF := pc_free (vaD_l hD) hS hA
  refine vx_calli hr hS (fun q _ h => hF q h) hF (fun q _ h => hF q h) (fun E ce q9 u t H1 locs1 ht hvm hp => absurd hp id) (fun r u t H1 locs1 ht hvm hp hB hz hk hS1 => ?_)
  obtain ⟨hP1, hD1⟩ := tw_join hP hD hk hF (by rw [← ht]; exact hB.1) hB.2
  exact kk r u H1 locs1 hp hP1 hD1 hS1 hz
theorem wr_last (hexec : p.tables.exec = Jvm.exec) (hb : c.code = cc) (hK : va_K D vwCl (TYL k cL) s) (hP : va_P D vwCl (X ++ [(o, .inl (cL, 1, .inr (.inl gl)))]) H) (hD : va_D A (X ++ [(o, .inl (cL, 1, .inr (.inl gl)))])) (hS : va_S A H0 H locs) {x : Int64} (hdg : decode cc pc = .ok (.lastore, 1))
    (kk : ∀ (H1 : Heap) (locs1 : List Loc), va_P D vwCl (X ++ [(o, .inl (cL, 1, .inr (.inl (vp_updL gl 0 x))))]) H1 → va_D A (X ++ [(o, .inl (cL, 1, .inr (.inl (vp_updL gl 0 x))))]) → va_S A H0 H1 locs1 → W p l e R s m args below meth c H1 locs1 cells slots Q (F0 m (pc + 1) ls rest)) : W p l e R s m args below meth c H locs cells slots Q (F0 m pc ls (.long x :: .int (zI 0) :: .ref o :: rest)) := by
  refine va_last hexec hb hK hP hD hS X.length 4 (tw_rk (i := 0) rfl) rfl (zI_in (by omega) (by omega)) hdg ?_
  rw [set_end, show (zI 0).toNatClampNeg = 0 by decide]
  exact kk
end TW
/-- behind a wrapper: its answer, the class's state, the number that it laid -/
def wP (k : Nat → ClassId) (cL : ClassId) (o a0 : Nat) (Sp : Int → Int32 → SA → Prop) (r9 : Int32) (u : va_W) : Prop := ∃ (kk : Int) (v : Int32) (S2 : SA) (L2 : List Nat) (F : Nat → va_E) (g2 : CG) (gl2 : Nat → Int64), r9 = zI kk ∧ (0 ≤ kk ∧ kk ≤ 3) ∧ u = va_pl L2 F ++ [(o, .inl (cL, 1, .inr (.inl gl2)))] ∧ gA g2 0 = a0 ∧ cRep k L2 F g2 S2 ∧ aOK S2 ∧ (kk = 0 → gl2 0 = v.toInt64) ∧ Sp kk v S2
