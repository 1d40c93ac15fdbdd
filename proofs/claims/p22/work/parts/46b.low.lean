/-! p22: the law's small methods, and what one act of its asks of an object -/
abbrev sh (x : Int32) (n : Int) : Int32 := x >>> (zI n &&& 31)
def lowN (x : Int32) : Nat := x.toBitVec.toNat &&& 2147483647
theorem lowN_le (x : Int32) : lowN x ≤ 2147483647 := Nat.and_le_right
theorem low_and (x : Int32) : x &&& 2147483647 = zI (lowN x : Int) := by
  have e : x = nI x.toBitVec.toNat := Int32.toBitVec_inj.mp (by
    show x.toBitVec = (Int32.ofNat x.toBitVec.toNat).toBitVec
    rw [Int32.toBitVec_ofNat', BitVec.ofNat_toNat, BitVec.setWidth_eq])
  rw [zI_nat]
  conv => lhs; rw [e]
  exact fa_and _ _
def lowI (x : Int32) (n : Int) : Int := (lowN x : Int) % n
theorem lowI_r {x : Int32} {n : Int} (h : 0 < n) : 0 ≤ lowI x n ∧ lowI x n < n := ⟨Int.emod_nonneg _ (by omega), Int.emod_lt_of_pos _ h⟩
def aOdd (x : Int32) : Bool := decide (lowI (sh x 24) 9 = 0)
def aFrom (x : Int32) (od : Bool) (n : Int) : Int := lowI (sh x 4) (n + (bif od then 3 else 1)) - (bif od then 1 else 0)
def aKind (x : Int32) (od : Bool) : Int := lowI (sh x 9) (bif od then 5 else 3)
def aOne (x : Int32) (od : Bool) (c : Int) : Int := lowI (sh x 9) (c + 1) - (bif od then 1 else 0)
def aOther (x : Int32) (c : Int) : Int := lowI (sh x 14) (c + 1)
def aWhat (x : Int32) (n c : Int) : Int := if (lowI x 16 < 5 ∧ 6 < n) ∨ (9 < lowI x 16 ∧ 8 < c) then 16 else lowI x 16
theorem aWhat_r (x : Int32) (n c : Int) : 0 ≤ aWhat x n c ∧ aWhat x n c ≤ 16 := by
  have h := lowI_r (x := x) (n := 16) (by decide)
  unfold aWhat
  by_cases c9 : (lowI x 16 < 5 ∧ 6 < n) ∨ (9 < lowI x 16 ∧ 8 < c)
  · rw [if_pos c9]; decide
  · rw [if_neg c9]; omega
def ActSp (S : SA) (x : Int32) (kk : Int) (v : Int32) (S2 : SA) : Prop :=
  if aWhat x (sN S) (sC S : Int) < 4 then SpInsert S (aFrom x (aOdd x) (sN S)) (lowI (sh x 9) (bif aOdd x then 8 else 3)) kk v S2
  else if aWhat x (sN S) (sC S : Int) = 4 then (if lowI (sh x 14) 2 = 0 then SpRemove S (aFrom x (aOdd x) (sN S)) kk v S2 else SpInsert S (aFrom x (aOdd x) (sN S)) (lowI (sh x 9) 3) kk v S2)
  else if aWhat x (sN S) (sC S : Int) < 9 then SpMark S (aKind x (aOdd x)) (aFrom x (aOdd x) (sN S)) (aFrom x (aOdd x) (sN S) + lowI (sh x 12) (bif aOdd x then 9 else 5) + (bif aOdd x then 0 else 1)) kk v S2
  else if aWhat x (sN S) (sC S : Int) = 9 then SpUnmark S (aKind x (aOdd x)) (lowI (sh x 12) 5 - (bif aOdd x then 1 else 0)) kk v S2
  else if aWhat x (sN S) (sC S : Int) = 10 then (if lowI (sh x 14) 2 = 0 then SpLetter S (lowI (sh x 9) (bif aOdd x then 7 else 3)) kk v S2 else SpMarked S (aKind x (aOdd x)) kk v S2)
  else if aWhat x (sN S) (sC S : Int) = 11 then SpNear S (aOne x (aOdd x) (sC S : Int)) (aOther x (sC S : Int)) (bif aOdd x then lowI (sh x 4) 27 - 1 else lowI (sh x 4) 6) kk v S2
  else if aWhat x (sN S) (sC S : Int) = 12 then SpOnly S (aOne x (aOdd x) (sC S : Int)) (decide (lowI (sh x 14) 2 = 0)) kk v S2
  else if aWhat x (sN S) (sC S : Int) = 16 then (if lowI (sh x 14) 2 = 0 then SpRemove S (aFrom x (aOdd x) (sN S)) kk v S2 else SpUnmark S (aKind x (aOdd x)) (lowI (sh x 12) 5 - (bif aOdd x then 1 else 0)) kk v S2)
  else SpPair S (bif aOdd x then lowI (sh x 4) 13 - 1 else lowI (sh x 4) 10) (aOne x (aOdd x) (sC S : Int)) (aOther x (sC S : Int)) kk v S2
section AS
variable {S S2 : SA} {x : Int32} {kk : Int} {v : Int32} {od : Bool}
theorem as_ins (ho : aOdd x = od) (hw : aWhat x (sN S) (sC S : Int) < 4) (h : SpInsert S (aFrom x od (sN S)) (lowI (sh x 9) (bif od then 8 else 3)) kk v S2) : ActSp S x kk v S2 := by
  subst ho
  unfold ActSp
  rw [if_pos (by omega)]
  exact h
theorem as_rem4 (ho : aOdd x = od) (hw : aWhat x (sN S) (sC S : Int) = 4) (hs : lowI (sh x 14) 2 = 0) (h : SpRemove S (aFrom x od (sN S)) kk v S2) : ActSp S x kk v S2 := by
  subst ho
  unfold ActSp
  rw [if_neg (by omega), if_pos (by omega), if_pos hs]
  exact h
theorem as_ins4 (ho : aOdd x = od) (hw : aWhat x (sN S) (sC S : Int) = 4) (hs : ¬ lowI (sh x 14) 2 = 0) (h : SpInsert S (aFrom x od (sN S)) (lowI (sh x 9) 3) kk v S2) : ActSp S x kk v S2 := by
  subst ho
  unfold ActSp
  rw [if_neg (by omega), if_pos (by omega), if_neg hs]
  exact h
theorem as_mark (ho : aOdd x = od) (hw : (4 < aWhat x (sN S) (sC S : Int) ∧ aWhat x (sN S) (sC S : Int) < 9)) (h : SpMark S (aKind x od) (aFrom x od (sN S)) (aFrom x od (sN S) + lowI (sh x 12) (bif od then 9 else 5) + (bif od then 0 else 1)) kk v S2) : ActSp S x kk v S2 := by
  subst ho
  unfold ActSp
  rw [if_neg (by omega), if_neg (by omega), if_pos (by omega)]
  exact h
theorem as_un9 (ho : aOdd x = od) (hw : aWhat x (sN S) (sC S : Int) = 9) (h : SpUnmark S (aKind x od) (lowI (sh x 12) 5 - (bif od then 1 else 0)) kk v S2) : ActSp S x kk v S2 := by
  subst ho
  unfold ActSp
  rw [if_neg (by omega), if_neg (by omega), if_neg (by omega), if_pos (by omega)]
  exact h
theorem as_let (ho : aOdd x = od) (hw : aWhat x (sN S) (sC S : Int) = 10) (hs : lowI (sh x 14) 2 = 0) (h : SpLetter S (lowI (sh x 9) (bif od then 7 else 3)) kk v S2) : ActSp S x kk v S2 := by
  subst ho
  unfold ActSp
  rw [if_neg (by omega), if_neg (by omega), if_neg (by omega), if_neg (by omega), if_pos (by omega), if_pos hs]
  exact h
theorem as_mkd (ho : aOdd x = od) (hw : aWhat x (sN S) (sC S : Int) = 10) (hs : ¬ lowI (sh x 14) 2 = 0) (h : SpMarked S (aKind x od) kk v S2) : ActSp S x kk v S2 := by
  subst ho
  unfold ActSp
  rw [if_neg (by omega), if_neg (by omega), if_neg (by omega), if_neg (by omega), if_pos (by omega), if_neg hs]
  exact h
theorem as_near (ho : aOdd x = od) (hw : aWhat x (sN S) (sC S : Int) = 11) (h : SpNear S (aOne x od (sC S : Int)) (aOther x (sC S : Int)) (bif od then lowI (sh x 4) 27 - 1 else lowI (sh x 4) 6) kk v S2) : ActSp S x kk v S2 := by
  subst ho
  unfold ActSp
  rw [if_neg (by omega), if_neg (by omega), if_neg (by omega), if_neg (by omega), if_neg (by omega), if_pos (by omega)]
  exact h
theorem as_only (ho : aOdd x = od) (hw : aWhat x (sN S) (sC S : Int) = 12) (h : SpOnly S (aOne x od (sC S : Int)) (decide (lowI (sh x 14) 2 = 0)) kk v S2) : ActSp S x kk v S2 := by
  subst ho
  unfold ActSp
  rw [if_neg (by omega), if_neg (by omega), if_neg (by omega), if_neg (by omega), if_neg (by omega), if_neg (by omega), if_pos (by omega)]
  exact h
theorem as_rem16 (ho : aOdd x = od) (hw : aWhat x (sN S) (sC S : Int) = 16) (hs : lowI (sh x 14) 2 = 0) (h : SpRemove S (aFrom x od (sN S)) kk v S2) : ActSp S x kk v S2 := by
  subst ho
  unfold ActSp
  rw [if_neg (by omega), if_neg (by omega), if_neg (by omega), if_neg (by omega), if_neg (by omega), if_neg (by omega), if_neg (by omega), if_pos (by omega), if_pos hs]
  exact h
theorem as_un16 (ho : aOdd x = od) (hw : aWhat x (sN S) (sC S : Int) = 16) (hs : ¬ lowI (sh x 14) 2 = 0) (h : SpUnmark S (aKind x od) (lowI (sh x 12) 5 - (bif od then 1 else 0)) kk v S2) : ActSp S x kk v S2 := by
  subst ho
  unfold ActSp
  rw [if_neg (by omega), if_neg (by omega), if_neg (by omega), if_neg (by omega), if_neg (by omega), if_neg (by omega), if_neg (by omega), if_pos (by omega), if_neg hs]
  exact h
theorem as_pair (ho : aOdd x = od) (hw : (12 < aWhat x (sN S) (sC S : Int) ∧ aWhat x (sN S) (sC S : Int) < 16)) (h : SpPair S (bif od then lowI (sh x 4) 13 - 1 else lowI (sh x 4) 10) (aOne x od (sC S : Int)) (aOther x (sC S : Int)) kk v S2) : ActSp S x kk v S2 := by
  subst ho
  unfold ActSp
  rw [if_neg (by omega), if_neg (by omega), if_neg (by omega), if_neg (by omega), if_neg (by omega), if_neg (by omega), if_neg (by omega), if_neg (by omega)]
  exact h
theorem act_fn {T T2 : SA} {kk2 : Int} {v2 : Int32} (h : eqS S T) (hS : aOK S) (hT : aOK T) (a : ActSp S x kk v S2) (b : ActSp T x kk2 v2 T2) : FN kk kk2 v v2 S2 T2 := by
  unfold ActSp at a b
  rw [← h.1, ← h.2.2.2.1] at b
  by_cases c1 : aWhat x (sN S) (sC S : Int) < 4
  · rw [if_pos c1] at a b; exact fn_insert h a b
  rw [if_neg c1] at a b
  by_cases c2 : aWhat x (sN S) (sC S : Int) = 4
  · rw [if_pos c2] at a b
    by_cases d : lowI (sh x 14) 2 = 0
    · rw [if_pos d] at a b; exact fn_remove h a b
    · rw [if_neg d] at a b; exact fn_insert h a b
  rw [if_neg c2] at a b
  by_cases c3 : aWhat x (sN S) (sC S : Int) < 9
  · rw [if_pos c3] at a b; exact fn_mark h a b
  rw [if_neg c3] at a b
  by_cases c4 : aWhat x (sN S) (sC S : Int) = 9
  · rw [if_pos c4] at a b; exact fn_unmark h hS hT a b
  rw [if_neg c4] at a b
  by_cases c5 : aWhat x (sN S) (sC S : Int) = 10
  · rw [if_pos c5] at a b
    by_cases d : lowI (sh x 14) 2 = 0
    · rw [if_pos d] at a b; exact fn_letter h a b
    · rw [if_neg d] at a b; exact fn_marked h a b
  rw [if_neg c5] at a b
  by_cases c6 : aWhat x (sN S) (sC S : Int) = 11
  · rw [if_pos c6] at a b; exact fn_near h a b
  rw [if_neg c6] at a b
  by_cases c7 : aWhat x (sN S) (sC S : Int) = 12
  · rw [if_pos c7] at a b; exact fn_only h a b
  rw [if_neg c7] at a b
  by_cases c8 : aWhat x (sN S) (sC S : Int) = 16
  · rw [if_pos c8] at a b
    by_cases d : lowI (sh x 14) 2 = 0
    · rw [if_pos d] at a b; exact fn_remove h a b
    · rw [if_neg d] at a b; exact fn_unmark h hS hT a b
  rw [if_neg c8] at a b
  exact fn_pair h a b
/-- an answer is no negative number; what throws changes nothing -/
abbrev VN (S : SA) (kk : Int) (v : Int32) (S2 : SA) : Prop := (kk = 0 ∧ ∃ n : Int, 0 ≤ n ∧ n ≤ 2000 ∧ v = zI n) ∨ (kk ≠ 0 ∧ S2 = S)
theorem size_le (g : Nat → Int32) : sizeR g ≤ 768 := fb_sm_bound (c := 32) fun j hj => fb_ct_le _ _
theorem vn_insert (hS : aOK S) {z y : Int} (a : SpInsert S z y kk v S2) : VN S kk v S2 := by
  have hn := hS.1
  rcases a with ⟨a1, rfl, rfl⟩ | ⟨a1, a2, rfl, rfl⟩ | ⟨a1, a2, a3, rfl, rfl⟩ | ⟨a1, a2, a3, rfl, rfl, G, hG, rfl⟩
  all_goals first | exact Or.inr ⟨by decide, rfl⟩ | exact Or.inl ⟨rfl, _, by omega, by omega, rfl⟩
theorem vn_remove (hS : aOK S) {z : Int} (a : SpRemove S z kk v S2) : VN S kk v S2 := by
  rcases a with ⟨a1, rfl, rfl⟩ | ⟨a1, rfl, rfl, rfl⟩
  · exact Or.inr ⟨by decide, rfl⟩
  · obtain ⟨y, h1, h2⟩ := hS.2.1 z.toNat (by omega)
    exact Or.inl ⟨rfl, _, by omega, by omega, h2⟩
theorem vn_mark {z y x : Int} (a : SpMark S z y x kk v S2) : VN S kk v S2 := by
  rcases a with ⟨a1, rfl, rfl⟩ | ⟨a1, a2, rfl, rfl⟩ | ⟨a1, a2, rfl, rfl, rfl⟩
  · exact Or.inr ⟨by decide, rfl⟩
  · exact Or.inr ⟨by decide, rfl⟩
  · refine Or.inl ⟨rfl, _, ?_, ?_, bI_z _⟩
    · cases (!hasB (sR S z.toNat) y x) <;> decide
    · cases (!hasB (sR S z.toNat) y x) <;> decide
theorem vn_unmark {z y : Int} (a : SpUnmark S z y kk v S2) : VN S kk v S2 := by
  rcases a with ⟨a1, rfl, rfl⟩ | ⟨a1, a2, rfl, rfl⟩ | ⟨a1, rfl, p, q, hp, hq, ha, hy, rfl, rfl⟩
  · exact Or.inr ⟨by decide, rfl⟩
  · exact Or.inr ⟨by decide, rfl⟩
  · have := size_le (dropR (sR S z.toNat) (p : Int) (q : Int))
    exact Or.inl ⟨rfl, _, by omega, by omega, rfl⟩
theorem vn_letter {z : Int} (hS : aOK S) (a : SpLetter S z kk v S2) : VN S kk v S2 := by
  have hc := hS.2.2.2.1
  rcases a with ⟨a1, rfl, rfl⟩ | ⟨a1, a2, rfl, rfl⟩ | ⟨a1, a2, rfl, rfl, rfl⟩
  all_goals first | exact Or.inr ⟨by decide, rfl⟩ | exact Or.inl ⟨rfl, _, by omega, by omega, rfl⟩
theorem vn_marked {z : Int} (hS : aOK S) (a : SpMarked S z kk v S2) : VN S kk v S2 := by
  have hc := hS.2.2.2.1
  rcases a with ⟨a1, rfl, rfl⟩ | ⟨a1, a2, rfl, rfl⟩ | ⟨a1, a2, rfl, rfl, rfl⟩
  all_goals first | exact Or.inr ⟨by decide, rfl⟩ | exact Or.inl ⟨rfl, _, by omega, by omega, rfl⟩
theorem vn_pair {w z y : Int} (hS : aOK S) (a : SpPair S w z y kk v S2) : VN S kk v S2 := by
  have hc := hS.2.2.2.1
  rcases a with ⟨a1, rfl, rfl⟩ | ⟨a1, a2, rfl, rfl⟩ | ⟨a1, a2, a3, rfl, rfl⟩ | ⟨a1, a2, a3, a4, rfl, rfl, rfl⟩
  all_goals first | exact Or.inr ⟨by decide, rfl⟩ | exact Or.inl ⟨rfl, _, by omega, by omega, rfl⟩
theorem vn_near {w z y : Int} (hS : aOK S) (a : SpNear S z y w kk v S2) : VN S kk v S2 := by
  have hc := hS.2.2.2.1
  rcases a with ⟨a1, rfl, rfl⟩ | ⟨a1, a2, rfl, rfl⟩ | ⟨a1, a2, a3, rfl, rfl⟩ | ⟨a1, a2, a3, a4, rfl, rfl, rfl⟩
  all_goals first | exact Or.inr ⟨by decide, rfl⟩ | exact Or.inl ⟨rfl, _, by omega, by omega, rfl⟩
theorem vn_only {z : Int} {b9 : Bool} (hS : aOK S) (a : SpOnly S z b9 kk v S2) : VN S kk v S2 := by
  have hc := hS.2.2.2.1
  rcases a with ⟨a1, rfl, rfl⟩ | ⟨a1, a2, rfl, rfl⟩ | ⟨a1, a2, a3, rfl, rfl, rfl⟩
  all_goals first | exact Or.inr ⟨by decide, rfl⟩ | exact Or.inl ⟨rfl, _, by omega, by omega, rfl⟩
theorem act_vn (hS : aOK S) (a : ActSp S x kk v S2) : VN S kk v S2 := by
  unfold ActSp at a
  split at a
  · exact vn_insert hS a
  split at a
  · split at a
    · exact vn_remove hS a
    · exact vn_insert hS a
  split at a
  · exact vn_mark a
  split at a
  · exact vn_unmark a
  split at a
  · split at a
    · exact vn_letter hS a
    · exact vn_marked hS a
  split at a
  · exact vn_near hS a
  split at a
  · exact vn_only hS a
  split at a
  · split at a
    · exact vn_remove hS a
    · exact vn_unmark a
  · exact vn_pair hS a
end AS
/-- an int of the script, or of the row behind it -/
theorem kL_cell (l : Launch) (b Ln : Nat) (xs : Nat → Int32) (hLn : Ln ≤ 2048) (i : Int) (hi : 0 ≤ i ∧ i ≤ 1000) : Met l yL_cell wsL_cell ({ frames := 0, cells := 0, slots := 0, locals := 0 } : Room) (va_Pc [.ref b, .int (zI i)] (fun U => va_X b Ln xs U U.heap)) (vp_Si (fun _ => True)) 0 0 (fun _ => False) := by
  refine Met.ofW (cc := cL_cell) (maxL := 2) (ret := some .int) (by decide) rfl ?_
  intro p e s m args below meth c s₁ B hml hv
  obtain ⟨rfl, hXs⟩ := hv
  have hx := B.exec
  have hb := B.bytes
  have hrt := B.returns
  have hlocks := B.notSynchronized
  have hbl : b < s.heap.size := by
    obtain ⟨scr, h1, -⟩ := hXs
    exact (Array.getElem?_eq_some_iff.mp h1).1
  have hS : va_S (fun _ => False) s.heap s.heap [] := va_S.rf
  have hl := lv_entry ([.ref b, .int (zI i)]) (n := 2) (Nat.le_of_ble_eq_true rfl)
  rw [lg_entry_eq]
  generalize (lg_sl ([.ref b, .int (zI i)]) ++ List.replicate (2 - (lg_sl ([.ref b, .int (zI i)])).length) Slot.unset).toArray = ls at hl ⊢
  have hl : lv_has ls 2 [(0, .ref b), (1, .int (zI i))] := hl
  obtain ⟨Q, hQ⟩ : ∃ Q, Q = MQ below (vp_Si (fun _ => True)) ([.ref b, .int (zI i)] : List Value).toArray s 0 0 (fun _ => False) := ⟨_, rfl⟩
  rw [← hQ]
  refine lv_iload_n hx hb dL_cell_0 rfl (lv_at hl 1 rfl) ?_
  refine lv_aload_n hx hb dL_cell_1 rfl (lv_at hl 0 rfl) ?_
  refine va_slen hx hb hXs hbl id hS dL_cell_2 ?_
  refine zr_top (show Int32.ofNat Ln = zI (Ln : Int) from (zI_nat Ln).symm) ?_
  refine zr_icmp_ge (tgt := 12) hx hb dL_cell_3 (by decide) (by omega) (by omega) (fun c1 => ?_) (fun c1 => ?_)
  · refine zr_sipush hx hb dL_cell_12 (by decide) ?_
    refine lv_iload_n hx hb dL_cell_15 rfl (lv_at hl 1 rfl) ?_
    refine zr_sipush hx hb dL_cell_16 (by decide) ?_
    refine zr_add hx hb dL_cell_19 ?_
    refine zr_mul hx hb dL_cell_20 ?_
    refine lv_iload_n hx hb dL_cell_21 rfl (lv_at hl 1 rfl) ?_
    refine zr_sipush hx hb dL_cell_22 (by decide) ?_
    refine zr_add hx hb dL_cell_25 ?_
    refine zr_mul hx hb dL_cell_26 ?_
    rw [hQ]
    exact rc_iret hx hb hrt trivial dL_cell_27 hlocks
  · refine lv_aload_n hx hb dL_cell_6 rfl (lv_at hl 0 rfl) ?_
    refine lv_iload_n hx hb dL_cell_7 rfl (lv_at hl 1 rfl) ?_
    refine va_sld hx hb hXs hbl id hS (zI_in (by omega) (by omega)) dL_cell_8 ?_
    refine lv_goto (tgt := 27) hx hb dL_cell_9 (by decide) ?_
    rw [hQ]
    exact rc_iret hx hb hrt trivial dL_cell_27 hlocks
set_option maxHeartbeats 4000000 in
set_option maxRecDepth 100000 in
theorem kL_low (l : Launch) (D : va_G) (k : Nat → ClassId) (L : List Nat) (f : Nat → va_E) (x : Int32) (n9 : Int) (hn9 : 0 < n9 ∧ n9 ≤ 1000) : Met l yL_low wsL_low ({ frames := 0, cells := 0, slots := 0, locals := 0 } : Room) (va_Pc [.int (x), .int (zI (n9))] (rPre D (tyL k) (va_pl L f))) (vp_Si (fun r9 => r9 = zI (lowI x n9))) 0 0 (fun _ => False) := by
  refine Met.ofW (cc := cL_low) (maxL := 2) (ret := (some .int)) (by decide) rfl ?_
  intro p e s m args below meth c s₁ B hml hv
  obtain ⟨rfl, hP, hC⟩ := hv
  have hK := hC.1
  have hNW := hC.2.1
  have hx := B.exec
  have hb := B.bytes
  have hrt := B.returns
  have hts := atoms_spec (ws := wsL_low) B.pre
  have hown : s.vm.findClass RL = some m.cls := findClass_of_methodNamed B.named
  have hlocks := B.notSynchronized
  have hw_0 := hts (.constant RL 7 (2147483647)) (by decide +kernel)
  have hl := lv_entry ([.int (x), .int (zI (n9))]) (n := 2) (Nat.le_of_ble_eq_true rfl)
  rw [lg_entry_eq]
  generalize (lg_sl ([.int (x), .int (zI (n9))]) ++ List.replicate (2 - (lg_sl ([.int (x), .int (zI (n9))])).length) Slot.unset).toArray = ls at hl ⊢
  have hl : lv_has ls 2 [(0, .int (x)), (1, .int (zI (n9)))] := hl
  obtain ⟨Q, hQ⟩ : ∃ Q, Q = MQ below (vp_Si (fun r9 => r9 = zI (lowI x n9))) ([.int (x), .int (zI (n9))] : List Value).toArray s 0 0 (fun _ => False) := ⟨_, rfl⟩
  rw [← hQ]
  have hlN := lowN_le x
  refine lv_iload_n hx hb dL_low_0 rfl (lv_at hl 0 rfl) ?_
  refine lv_ldc (v := 2147483647) hx hb hown hw_0 dL_low_1 ?_
  refine lv_iand hx hb dL_low_3 ?_
  refine zr_top (low_and x) ?_
  refine lv_iload_n hx hb dL_low_4 rfl (lv_at hl 1 rfl) ?_
  refine zr_rem hx hb (by omega) (by omega) dL_low_5 ?_
  rw [hQ]
  exact rc_iret hx hb hrt (rfl) dL_low_6 hlocks
