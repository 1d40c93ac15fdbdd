section TW
variable {p : Program} {l : Launch} {e : Env} {R : Room} {s : State} {m : MethodId} {args : Array Value} {below : List Frame} {meth : Method} {c : Code} {H : Heap} {locs : List Loc} {cells slots : Nat} {Q : State → Prop} {cc : ByteArray} {pc : Nat} {ls : Array Slot} {rest st0 : List Value} {D : va_G} {cl : List vw_C} {A : Nat → Prop} {H0 H1 : Heap} {X Y X1 ws : va_W} {k : Nat → ClassId} {cL : ClassId} {o mc ms : Nat} {gl : Nat → Int64}
theorem tw_lk {q : Nat × va_E} {i : Nat} (h : X[i]? = some q) : (X ++ Y)[i]? = some q := by
  rw [List.getElem?_append_left (List.getElem?_eq_some_iff.mp h).1]; exact h
theorem tw_rk {q : Nat × va_E} {i : Nat} (h : Y[i]? = some q) : (X ++ Y)[X.length + i]? = some q := by
  rw [List.getElem?_append_right (Nat.le_add_right _ _), Nat.add_sub_cancel_left]; exact h
theorem vaP_l (h : va_P D cl (X ++ Y) H) : va_P D cl X H := fun i q hq => h i q (tw_lk hq)
theorem vaP_r (h : va_P D cl (X ++ Y) H) : va_P D cl Y H := fun i q hq => h _ q (tw_rk hq)
theorem vaD_l (h : va_D A (X ++ Y)) : va_D A X := ⟨fun i j p q hi hj e => h.1 i j p q (tw_lk hi) (tw_lk hj) e, fun i q hq => h.2 i q (tw_lk hq)⟩
theorem vaD_r (h : va_D A (X ++ Y)) : va_D A Y := ⟨fun i j p q hi hj e => by have := h.1 _ _ p q (tw_rk hi) (tw_rk hj) e; omega, fun i q hq => h.2 _ q (tw_rk hq)⟩
theorem tw_swapP (h : va_P D cl (X ++ Y) H) : va_P D cl (Y ++ X) H := va_P.app (vaP_r h) (vaP_l h)
theorem tw_swapD (h : va_D A (X ++ Y)) : va_D A (Y ++ X) := va_D.app (vaD_r h) (vaD_l h) (fun i j p q hi hj e => by
  have h1 := h.1 _ _ q p (tw_lk hj) (tw_rk hi) e.symm
  have h2 := (List.getElem?_eq_some_iff.mp hj).1
  omega)
theorem tw_join {A0 : Nat → Prop} (hP : va_P D cl (X ++ Y) H) (hD : va_D A0 (X ++ Y)) (hk : ∀ q : Nat, q < H.size → ¬ va_A X H.size q → H1[q]? = H[q]?) (hF : ∀ q, va_A X H.size q → A0 q) (hP1 : va_P D cl X1 H1) (hD1 : va_D (va_A X H.size) X1) : va_P D cl (X1 ++ Y) H1 ∧ va_D A0 (X1 ++ Y) := by
  have apart : ∀ (i : Nat) (q : Nat × va_E), Y[i]? = some q → q.1 < H.size ∧ ¬ va_A X H.size q.1 := by
    intro i q hq
    have h2 := tw_rk (X := X) hq
    have hl := (hP _ q h2).lt
    refine ⟨hl, fun h => ?_⟩
    rcases h with ⟨k2, e, h⟩ | h
    · have hij := hD.1 _ _ q (q.1, e) h2 (tw_lk h) rfl
      have := (List.getElem?_eq_some_iff.mp h).1
      omega
    · omega
  refine ⟨va_P.app hP1 (fun i q hq => ?_), va_D.app (hD1.weaken (fun i q _ h => hF q.1 h)) (vaD_r hD) (fun i j x y hx hy hxy => ?_)⟩
  · obtain ⟨g1, g2⟩ := apart i q hq
    exact ((vaP_r hP) i q hq).kept (hk q.1 g1 g2)
  · refine (apart j y hy).2 ?_
    rw [← hxy]
    exact hD1.2 i x hx
theorem wr_calli {post : Int32 → va_W → Prop} {av : Array Value} (hr : va_Run p l e R s m args below meth c H locs cells slots mc ms (F0 m pc ls st0) rest (va_Qi post (pB D X H.size) (va_A X H.size) av) (va_A X H.size)) (hP : va_P D vwCl (X ++ Y) H) (hD : va_D A (X ++ Y)) (hS : va_S A H0 H locs) (hA : ∀ q, H0.size ≤ q → A q)
    (kk : ∀ (r : Int32) (u : va_W) (H1 : Heap) (locs1 : List Loc), post r u → va_P D vwCl (u ++ Y) H1 → va_D A (u ++ Y) → va_S A H0 H1 locs1 → H.size ≤ H1.size → W p l e R s m args below meth c H1 locs1 (cells + mc) (slots + ms) Q (F0 m (pc + 3) ls (.int r :: rest))) : W p l e R s m args below meth c H locs cells slots Q (F0 m pc ls st0) := by
  have hF := pc_free (vaD_l hD) hS hA
  refine va_calli hr hS (fun q _ h => hF q h) hF (fun r u t H1 locs1 ht hvm hp hB hz hk hS1 => ?_)
  obtain ⟨hP1, hD1⟩ := tw_join hP hD hk hF (by rw [← ht]; exact hB.1) hB.2
  exact kk r u H1 locs1 hp hP1 hD1 hS1 hz
theorem wr_callv {post : va_W → Prop} {av : Array Value} (hr : va_Run p l e R s m args below meth c H locs cells slots mc ms (F0 m pc ls st0) rest (va_Qv post (pB D X H.size) (va_A X H.size) av) (va_A X H.size)) (hP : va_P D vwCl (X ++ Y) H) (hD : va_D A (X ++ Y)) (hS : va_S A H0 H locs) (hA : ∀ q, H0.size ≤ q → A q)
    (kk : ∀ (u : va_W) (H1 : Heap) (locs1 : List Loc), post u → va_P D vwCl (u ++ Y) H1 → va_D A (u ++ Y) → va_S A H0 H1 locs1 → H.size ≤ H1.size → W p l e R s m args below meth c H1 locs1 (cells + mc) (slots + ms) Q (F0 m (pc + 3) ls rest)) : W p l e R s m args below meth c H locs cells slots Q (F0 m pc ls st0) := by
  have hF := pc_free (vaD_l hD) hS hA
  refine va_callv hr hS (fun q _ h => hF q h) hF (fun u t H1 locs1 ht hvm hp hB hz hk hS1 => ?_)
  obtain ⟨hP1, hD1⟩ := tw_join hP hD hk hF (by rw [← ht]; exact hB.1) hB.2
  exact kk u H1 locs1 hp hP1 hD1 hS1 hz
theorem wr_callw {post : Int32 → va_W → Prop} {av : Array Value} {BX : String → va_W → State → Prop} (hr : vx_Run p l e R s m args below meth c H locs cells slots mc ms (F0 m pc ls st0) rest (va_Qi post (pB D X H.size) (va_A X H.size) av) (vx_X (fun _ : va_W => False) BX (va_A X H.size)) (va_A X H.size)) (hP : va_P D vwCl (X ++ Y) H) (hD : va_D A (X ++ Y)) (hS : va_S A H0 H locs) (hA : ∀ q, H0.size ≤ q → A q)
    (kk : ∀ (r : Int32) (u : va_W) (H1 : Heap) (locs1 : List Loc), post r u → va_P D vwCl (u ++ Y) H1 → va_D A (u ++ Y) → va_S A H0 H1 locs1 → H.size ≤ H1.size → W p l e R s m args below meth c H1 locs1 (cells + mc) (slots + ms) Q (F0 m (pc + 3) ls (.int r :: rest))) : W p l e R s m args below meth c H locs cells slots Q (F0 m pc ls st0) := by
  have hF := pc_free (vaD_l hD) hS hA
  refine vx_calli hr hS (fun q _ h => hF q h) hF (fun q _ h => hF q h) (fun E ce q9 u t H1 locs1 ht hvm hp => absurd hp id) (fun r u t H1 locs1 ht hvm hp hB hz hk hS1 => ?_)
  obtain ⟨hP1, hD1⟩ := tw_join hP hD hk hF (by rw [← ht]; exact hB.1) hB.2
  exact kk r u H1 locs1 hp hP1 hD1 hS1 hz
end TW
section LW
variable {p : Program} {l : Launch} {e : Env} {R : Room} {s : State} {m : MethodId} {args : Array Value} {below : List Frame} {meth : Method} {c : Code} {H : Heap} {locs : List Loc} {cells slots : Nat} {Q : State → Prop} {cc : ByteArray} {pc : Nat} {ls : Array Slot} {rest : List Value} {A : Nat → Prop} {H0 : Heap}
theorem law_num (x : Int32) : ∃ z : Int, (-2147483648 ≤ z ∧ z < 2147483648) ∧ x = zI z := ⟨x.toInt, fb_rng x, zI_of x⟩
end LW
