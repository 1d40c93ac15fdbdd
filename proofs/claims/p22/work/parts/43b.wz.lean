/-! p22: a wrapper that never throws is a plain method; a call that throws, over one pool; what a wrapper leaves -/
theorem vx_toMet {l : Launch} {y : MethodName} {ws : List Cond} {rm : Room} {Pc : Array Value → State → Prop} {Qc : Array Value → State → Outcome → State → Prop} {XC : String → State → State → Prop} {mc ms : Nat} {free : Addr → Prop} (h : vx_Met l y ws rm Pc Qc XC mc ms free) (hx : ∀ E st t, ¬ XC E st t) : Met l y ws rm Pc Qc mc ms free := by
  intro p e ha hc hk s m args below hf happ hP hK
  obtain ⟨n, o, h1, h2, h3, h4⟩ := h p e ha hc hk s m args below hf happ hP hK
  rcases h4 with h5 | ⟨q, e1, E, ce, L9, hX9, -⟩
  · exact ⟨n, o, h1, h2, h3, h5⟩
  · exact absurd hX9 (hx _ _ _)
section PZ
variable {p : Program} {l : Launch} {e : Env} {R : Room} {s : State} {m : MethodId} {args : Array Value} {below : List Frame} {meth : Method} {c : Code} {H : Heap} {locs : List Loc} {cells slots : Nat} {Q : State → Prop} {pc : Nat} {ls : Array Slot} {rest st0 : List Value} {D : va_G} {A : Nat → Prop} {H0 : Heap} {X : va_W} {mc ms : Nat}
theorem pz_callx {cond : String → va_W → Prop} {av : Array Value} (hr : vx_Run p l e R s m args below meth c H locs cells slots mc ms (F0 m pc ls st0) rest (va_Qv (fun _ => False) (pB D X H.size) (va_A X H.size) av) (xX D X H.size cond) (va_A X H.size)) (hD : va_D A X) (hS : va_S A H0 H locs) (hA : ∀ q, H0.size ≤ q → A q)
    (kk : ∀ (E : String) (ce : Cell) (q9 : Addr) (u : va_W) (H1 : Heap) (locs1 : List Loc), cond E u → va_P D vwCl u H1 → va_D A u → va_S A H0 H1 locs1 → H1[q9]? = some ce → ce.vm = .none → s.vm.findClass E = some ce.cls → vx_W p l e R s m args below meth c H1 locs1 (cells + mc) (slots + ms) Q (F0 m pc ls rest) q9) : W p l e R s m args below meth c H locs cells slots Q (F0 m pc ls st0) := by
  have hF := pc_free hD hS hA
  refine vx_callv hr hS (fun q _ h => hF q h) hF (fun q _ h => hF q h) (fun E ce q9 u t H1 locs1 ht hvm hp hB hz hk1 hS1 hcell hv hcl => ?_) (fun u t H1 locs1 ht hvm hp => absurd hp id)
  exact kk E ce q9 u H1 locs1 hB.1 (by rw [← ht]; exact hB.2.1) (hB.2.2.weaken (fun _ _ _ h => hF _ h)) hS1 hcell hv hcl
end PZ
/-- behind a wrapper: its answer (v where kk is 0, else ng), the class's state -/
def wQ (k : Nat → ClassId) (a0 : Nat) (ng : Int32) (Sp : Int → Int32 → SA → Prop) (r9 : Int32) (u : va_W) : Prop := ∃ (kk : Int) (v : Int32) (S2 : SA) (L2 : List Nat) (F : Nat → va_E) (g2 : CG), r9 = (if kk = 0 then v else ng) ∧ (0 ≤ kk ∧ kk ≤ 3) ∧ u = va_pl L2 F ∧ gA g2 0 = a0 ∧ cRep k L2 F g2 S2 ∧ aOK S2 ∧ Sp kk v S2
theorem wQ.mono {k : Nat → ClassId} {a0 : Nat} {ng : Int32} {Sp Sp2 : Int → Int32 → SA → Prop} {r9 : Int32} {u : va_W} (h : wQ k a0 ng Sp r9 u) (hs : ∀ kk v S2, Sp kk v S2 → Sp2 kk v S2) : wQ k a0 ng Sp2 r9 u := by
  obtain ⟨kk, v, S2, L2, F, g2, h1, h2, h3, h4, h5, h6, h7⟩ := h
  exact ⟨kk, v, S2, L2, F, g2, h1, h2, h3, h4, h5, h6, hs _ _ _ h7⟩
/-- the same, of a wrapper that makes nothing -/
def wQL (k : Nat → ClassId) (L : List Nat) (a0 : Nat) (ng : Int32) (Sp : Int → Int32 → SA → Prop) (r9 : Int32) (u : va_W) : Prop := ∃ (kk : Int) (v : Int32) (S2 : SA) (F : Nat → va_E) (g2 : CG), r9 = (if kk = 0 then v else ng) ∧ (0 ≤ kk ∧ kk ≤ 3) ∧ u = va_pl L F ∧ gA g2 0 = a0 ∧ cRep k L F g2 S2 ∧ aOK S2 ∧ Sp kk v S2
