/-! THE CLAIM OUT OF ONE WALK OF THE LAW'S BODY. Your part is whole_start (and what it stands on); all else here is the same for every law, but numbers. -/
def R_law : String := "RegionryLaw"
def lw_P (b : Addr) (xs : List Int32) (args : Array Value) (s : State) : Prop := args = #[.ref b] ∧ s.IntsAt b xs ∧ xs.length ≤ 2048 ∧ (Jvm.Cond.and given_1 narrow_1).before args s = true
def lw_Q (_ : Array Value) (s : State) (o : Outcome) (t : State) : Prop := o = .returned (some (.int 1)) ∧ Framed s o t [] 601024 7293034
def lw_Z (below : List Frame) (a : Array Value) (s : State) : State → Prop := fun t => ∃ o, t.status = .running ∧ Ended t below o ∧ lw_Q a s o t
/-- the law's own end, with 1 on the stack, nothing written that was there before, its room as the claim has it -/
theorem lw_ret {p : Program} {l : Launch} {e : Env} {s : State} {m : MethodId} {below : List Frame} {meth : Method} {c : Code} {b : Nat} (hx : p.tables.exec = Jvm.exec) (hb : c.code = code) (hr : meth.sig.returnType = ret) (hlocks : meth.locks = false) {pc : Nat} {H : Heap} {ls : Array Slot} (hdg : decode code pc = .ok (.ireturn, 1)) : W p l e room_1 s m #[Value.ref b] below meth c H [] 601024 7293034 (lw_Z below #[Value.ref b] s) (F0 m pc ls [.int 1]) := by
  intro T hT X
  obtain ⟨fs, hret, hrun, hended, hW, hframe⟩ := X.leave (v := some (.int 1)) (hlocks := hlocks) (fun h => by rw [hr] at h; cases h)
  have hmeth' : T.vm.method? m = some meth := X.method'
  refine ⟨T.setFrames fs, ?_, .returned (some (.int 1)), hrun, hended, rfl, ⟨_, rfl⟩, hW, hframe⟩
  jvm_step X.here [X.here.top, hx, hb, hdg, hmeth', hr, ret, narrow_b1]
  (try refine ⟨rfl, ?_⟩); (try refine ⟨rfl, ?_⟩)
  first | (intro acts; rw [hret _ acts rfl rfl rfl]) | rw [hret _ _ rfl rfl rfl]
  exact Steps.refl _
/-- what holds at the law's entry: the machine, the code, the tables' words (any of lw_tbl by 'hts w (by decide +kernel)'), the script of L ints xs at the cell b, what the Statement gives of the start (any of its parts by flat_of_before) -/
def lw_At (p : Program) (s : State) (m : MethodId) (meth : Method) (c : Code) (b L : Nat) (xs : Nat → Int32) : Prop :=
  p.tables.exec = Jvm.exec ∧ c.code = code ∧ meth.sig.returnType = ret ∧ c.maxLocals = 7 ∧ s.vm.findClass R_law = some m.cls ∧ (∀ w ∈ lw_tbl, w.before #[Value.ref b] s = true) ∧ va_X b L xs s s.heap ∧ b < s.heap.size ∧ meth.locks = false ∧ (Jvm.Cond.and given_1 narrow_1).before #[Value.ref b] s = true
/-! ===== our own: the law's steps ===== -/
section LW
variable {p : Program} {l : Launch} {e : Env} {R : Room} {s : State} {m : MethodId} {args : Array Value} {below : List Frame} {meth : Method} {c : Code} {H : Heap} {locs : List Loc} {cells slots : Nat} {Q : State → Prop} {cc : ByteArray} {pc : Nat} {ls : Array Slot} {rest : List Value} {A : Nat → Prop} {H0 : Heap}
theorem law_ld (hexec : p.tables.exec = Jvm.exec) (hb : c.code = cc) {b Ln : Nat} {xs : Nat → Int32} (hX : va_X b Ln xs s H0) (hbl : b < H0.size) (hbA : ¬ A b) (hS : va_S A H0 H locs) {z w : Int} {j : Nat} (hz : z = j) (hj : j < Ln) (hLn : Ln ≤ 2048) (hw : xs j = zI w) (hdg : decode cc pc = .ok (.iaload, 1))
    (kk : W p l e R s m args below meth c H locs cells slots Q (F0 m (pc + 1) ls (.int (zI w) :: rest))) : W p l e R s m args below meth c H locs cells slots Q (F0 m pc ls (.int (zI z) :: .ref b :: rest)) := by
  refine va_sld hexec hb hX hbl hbA hS (zI_in (by omega) (by omega)) hdg ?_
  rw [zI_cl (by omega), hz, Int.toNat_natCast, hw]
  exact kk
theorem law_num (x : Int32) : ∃ z : Int, (-2147483648 ≤ z ∧ z < 2147483648) ∧ x = zI z := ⟨x.toInt, fb_rng x, zI_of x⟩
theorem lg_same {x y : Int64} (h : x = y) : lg_cmp x y = zI 0 := by
  subst h
  unfold lg_cmp
  rw [if_neg (by rw [gt_iff_lt, Int64.lt_iff_toInt_lt]; omega), if_pos rfl]
  decide
theorem law_31 (x : Int32) : ∃ z : Int, (0 ≤ z ∧ z < 32) ∧ x &&& zI 31 = zI z := by
  have e : x = nI x.toBitVec.toNat := Int32.toBitVec_inj.mp (by
    show x.toBitVec = (Int32.ofNat x.toBitVec.toNat).toBitVec
    rw [Int32.toBitVec_ofNat', BitVec.ofNat_toNat, BitVec.setWidth_eq])
  refine ⟨((x.toBitVec.toNat &&& 31 : Nat) : Int), ?_, ?_⟩
  · have := Nat.and_le_right (n := x.toBitVec.toNat) (m := 31)
    omega
  · rw [show zI 31 = nI 31 from zI_nat 31, zI_nat]
    conv => lhs; rw [e]
    exact fa_and _ _
end LW
/-- what is owed at the end of one round of the law's loop -/
def KEnd (p : Program) (l : Launch) (e : Env) (s : State) (m : MethodId) (b : Nat) (below : List Frame) (meth : Method) (c : Code) (cells slots : Nat) (Q : State → Prop) (D : va_G) (k : Nat → ClassId) (cL : ClassId) (x0 : Nat) (Lm : List Nat) (a : Nat → Nat) (o i : Nat) : Prop :=
  ∀ (S2 : SA) (L2 : List Nat) (F : Nat → va_E) (g2 : CG) (Fm : Nat → va_E) (tw2 : Int) (B1 B2 B3 B4 B5 B6 B7 B8 B9 B10 : Nat → Int32) (gl2 : Nat → Int64) (H1 : Heap) (locs1 : List Loc) (ls2 : Array Slot), cRep k L2 F g2 S2 → aOK S2 → gA g2 0 = x0 → mRep k Lm Fm a tw2 (sN S2) (sC S2 : Int) B1 B2 B3 B4 B5 B6 B7 B8 B9 B10 → 0 ≤ tw2 ∧ tw2 ≤ 3 → mSync S2 B1 B2 B3 B4 B5 B6 B7 → va_P D vwCl ((va_pl L2 F ++ [(o, .inl (cL, 1, .inr (.inl gl2)))]) ++ va_pl Lm Fm) H1 → va_D (fun q : Nat => s.heap.size ≤ q) ((va_pl L2 F ++ [(o, .inl (cL, 1, .inr (.inl gl2)))]) ++ va_pl Lm Fm) → va_S (fun q : Nat => s.heap.size ≤ q) s.heap H1 locs1 → lv_has ls2 7 [(4, .int (zI (i : Int))), (0, .ref b), (1, .ref x0), (2, .ref (a 0)), (3, .ref o)] →
    W p l e room_1 s m #[Value.ref b] below meth c H1 locs1 (cells + 7) (slots + 82) Q (F0 m 1280 ls2 [])
