theorem addP {k : Nat → ClassId} {L : List Nat} {f F : Nat → va_E} {g : CG} {S : SA} (h : cRep k L f g S) (hok : aOK S) (hc : sC S < 30) {o q1 r1 q2 r2 w o1 o2 : Nat} {gp dp : Int} {nd : Int32} {VV : List Value} (f1 : r1 ∉ L ++ [o] ++ [q1]) (f3 : r2 ∉ L ++ [o] ++ [q1] ++ [r1] ++ [q2]) (hw : w ≠ 9) (e0 : F o = .inr (exK w, .int (zI dp) :: .int nd :: .ref q1 :: .ref q2 :: VV)) (hV : nodeV (addG g (sC S) o q1 r1 q2 r2 q1 r1 nd) (addS S w o1 o2 gp dp) (sC S) = VV)
    (e1 : F q1 = .inr (5, [.ref r1])) (e2 : F r1 = .inl (k 0, 24, .inl (fun _ => 0))) (e3 : F q2 = .inr (5, [.ref r2])) (e4 : F r2 = .inl (k 0, 24, .inl (fun _ => 0))) (hF : ∀ a, a ∈ L → F a = f a) (hnd : needOK (fun j => if j = sC S then nd else gD g j) (addS S w o1 o2 gp dp) (sC S)) :
    ∃ (L2 : List Nat) (F2 : Nat → va_E) (g2 : CG), va_pl (L ++ [o] ++ [q1] ++ [r1] ++ [q2] ++ [r2]) (va_up (va_up F (gA g 4) (.inl (k 2, 30, .inr (.inr (.inr (.inr (va_up (gE g) (sC S) (some o)))))))) (gA g 0) (.inr (8, [.ref (gA g 1), .ref (gA g 4), .int (zI ((sC S : Int) + 1))]))) = va_pl L2 F2 ∧ gA g2 0 = gA g 0 ∧ cRep k L2 F2 g2 (addS S w o1 o2 gp dp) :=
  ⟨_, _, addG g (sC S) o q1 r1 q2 r2 q1 r1 nd, rfl, rfl, h.mk hok hc (fun a h9 => by simp [h9]) (by simp) (by simp) (by simp) (by simp) (by simp) (fun h9 => f1 (by simp [h9])) (fun h9 => f3 (by simp [h9])) (fun h9 => f1 (by simp [h9])) (fun h9 => f3 (by simp [h9])) (fun h9 => absurd h9 hw) e1 e2 e3 e4 (by rw [hV]; exact e0) hF hnd⟩
theorem addQ {k : Nat → ClassId} {L : List Nat} {f F : Nat → va_E} {g : CG} {S : SA} (h : cRep k L f g S) (hok : aOK S) (hc : sC S < 30) {o q1 r1 q2 r2 q3 r3 o1 o2 : Nat} {gp dp : Int} {nd : Int32} {VV : List Value} (f1 : r1 ∉ L ++ [o] ++ [q1]) (f3 : r2 ∉ L ++ [o] ++ [q1] ++ [r1] ++ [q2]) (f5 : r3 ∉ L ++ [o] ++ [q1] ++ [r1] ++ [q2] ++ [r2] ++ [q3]) (e0 : F o = .inr (6, .int (zI dp) :: .int nd :: .ref q1 :: .ref q2 :: VV)) (hV : nodeV (addG g (sC S) o q1 r1 q2 r2 q3 r3 nd) (addS S 9 o1 o2 gp dp) (sC S) = VV)
    (e1 : F q1 = .inr (5, [.ref r1])) (e2 : F r1 = .inl (k 0, 24, .inl (fun _ => 0))) (e3 : F q2 = .inr (5, [.ref r2])) (e4 : F r2 = .inl (k 0, 24, .inl (fun _ => 0))) (e5 : F q3 = .inr (5, [.ref r3])) (e6 : F r3 = .inl (k 0, 24, .inl (fun _ => 0))) (hF : ∀ a, a ∈ L → F a = f a) (hnd : needOK (fun j => if j = sC S then nd else gD g j) (addS S 9 o1 o2 gp dp) (sC S)) :
    ∃ (L2 : List Nat) (F2 : Nat → va_E) (g2 : CG), va_pl (L ++ [o] ++ [q1] ++ [r1] ++ [q2] ++ [r2] ++ [q3] ++ [r3]) (va_up (va_up F (gA g 4) (.inl (k 2, 30, .inr (.inr (.inr (.inr (va_up (gE g) (sC S) (some o)))))))) (gA g 0) (.inr (8, [.ref (gA g 1), .ref (gA g 4), .int (zI ((sC S : Int) + 1))]))) = va_pl L2 F2 ∧ gA g2 0 = gA g 0 ∧ cRep k L2 F2 g2 (addS S 9 o1 o2 gp dp) :=
  ⟨_, _, addG g (sC S) o q1 r1 q2 r2 q3 r3 nd, rfl, rfl, h.mk hok hc (fun a h9 => by simp [h9]) (by simp) (by simp) (by simp) (by simp) (by simp) (fun h9 => f1 (by simp [h9])) (fun h9 => f3 (by simp [h9])) (fun h9 => f5 (by simp [h9])) (fun h9 => f3 (by simp [h9])) (fun _ => ⟨by simp, by simp, fun h9 => f5 (by simp [h9]), fun h9 => f5 (by simp [h9]), e5, e6⟩) e1 e2 e3 e4 (by rw [hV]; exact e0) hF hnd⟩
/-- what the new node needs: itself, and what its parts need -/
theorem needL {g : CG} {S : SA} {w o1 o2 : Nat} {gp dp : Int} (hc : sC S < 30) (hw : w = 11 ∨ w = 12) : needOK (fun j => if j = sC S then zI 0 ||| pw (sC S : Int).toNat else gD g j) (addS S w o1 o2 gp dp) (sC S) := by
  unfold needOK
  simp only [if_true]
  have hb : ∀ j, bt (zI 0 ||| pw (sC S : Int).toNat) j = decide (j = sC S) := fun j => by
    rw [b_or, Int.toNat_natCast, bt_pw (by omega), show zI 0 = 0 from rfl, b_0, Bool.false_or]
  refine ⟨by rw [hb]; simp, fun j hj => ?_⟩
  rw [hb, decide_eq_true_eq] at hj
  subst hj
  refine ⟨Nat.le_refl _, fun hcm => ?_⟩
  have h1 : (if sC S = sC S then w else sW S (sC S)) ≠ 11 ∧ (if sC S = sC S then w else sW S (sC S)) ≠ 12 := hcm
  rw [if_pos rfl] at h1
  omega
theorem needP {g : CG} {S : SA} {w i j : Nat} {gp dp : Int} {nd : Int32} (hc : sC S < 30) (hi : i < sC S) (hj : j < sC S) (h1 : needOK (gD g) S i) (h2 : needOK (gD g) S j) (hb : ∀ t, bt nd t = (bt (gD g i) t || bt (gD g j) t || decide (t = sC S))) : needOK (fun j => if j = sC S then nd else gD g j) (addS S w i j gp dp) (sC S) := by
  unfold needOK
  simp only [if_true]
  refine ⟨by rw [hb]; simp, fun t ht => ?_⟩
  rw [hb] at ht
  by_cases ct : t = sC S
  · subst ct
    refine ⟨Nat.le_refl _, fun _ => ?_⟩
    show bt nd (if sC S = sC S then i else sO S (sC S)) = true ∧ bt nd (if sC S = sC S then j else sP S (sC S)) = true
    rw [if_pos rfl, if_pos rfl, hb, hb, h1.1, h2.1]
    simp
  · have hx : ∀ u, u < sC S → needOK (gD g) S u → (∀ y, bt (gD g u) y = true → bt nd y = true) → bt (gD g u) t = true → t ≤ sC S ∧ (comp (addS S w i j gp dp) t → bt nd (sO (addS S w i j gp dp) t) = true ∧ bt nd (sP (addS S w i j gp dp) t) = true) := fun u hu hn hy h9 => by
      obtain ⟨g1, g2⟩ := hn.2 t h9
      refine ⟨by omega, fun hcm => ?_⟩
      have hcm : (if t = sC S then w else sW S t) ≠ 11 ∧ (if t = sC S then w else sW S t) ≠ 12 := hcm
      rw [if_neg ct] at hcm
      show bt nd (if t = sC S then i else sO S t) = true ∧ bt nd (if t = sC S then j else sP S t) = true
      rw [if_neg ct, if_neg ct]
      exact ⟨hy _ (g2 hcm).1, hy _ (g2 hcm).2⟩
    rw [decide_eq_false ct, Bool.or_false, Bool.or_eq_true] at ht
    rcases ht with ht | ht
    · exact hx i hi h1 (fun y hy => by rw [hb, hy]; simp) ht
    · exact hx j hj h2 (fun y hy => by rw [hb, hy]; simp) ht
theorem bt_new {x y : Int32} {n : Nat} (hn : n < 30) (t : Nat) : bt ((x ||| y) ||| pw (n : Int).toNat) t = (bt x t || bt y t || decide (t = n)) := by rw [b_or, b_or, Int.toNat_natCast, bt_pw (by omega)]
theorem bt_new1 {x : Int32} {n : Nat} (hn : n < 30) (t : Nat) : bt (x ||| pw (n : Int).toNat) t = (bt x t || bt x t || decide (t = n)) := by rw [b_or, Int.toNat_natCast, bt_pw (by omega), Bool.or_self]
section NV
variable {g : CG} {S : SA} {o q1 r1 q2 r2 q3 r3 o1 o2 w : Nat} {gp dp : Int} {nd : Int32}
theorem adS_w : sW (addS S w o1 o2 gp dp) (sC S) = w := if_pos rfl
theorem adS_o : sO (addS S w o1 o2 gp dp) (sC S) = o1 := if_pos rfl
theorem adS_p : sP (addS S w o1 o2 gp dp) (sC S) = o2 := if_pos rfl
theorem adS_g : sG (addS S w o1 o2 gp dp) (sC S) = gp := if_pos rfl
theorem adS_d : sD (addS S w o1 o2 gp dp) (sC S) = dp := if_pos rfl
theorem adN_w {i : Nat} (h : i ≠ sC S) : sW (addS S w o1 o2 gp dp) i = sW S i := if_neg h
theorem adN_o {i : Nat} (h : i ≠ sC S) : sO (addS S w o1 o2 gp dp) i = sO S i := if_neg h
theorem adN_p {i : Nat} (h : i ≠ sC S) : sP (addS S w o1 o2 gp dp) i = sP S i := if_neg h
theorem adN_g {i : Nat} (h : i ≠ sC S) : sG (addS S w o1 o2 gp dp) i = sG S i := if_neg h
theorem adN_d {i : Nat} (h : i ≠ sC S) : sD (addS S w o1 o2 gp dp) i = sD S i := if_neg h
theorem adG_n {i r : Nat} (h : i < sC S) : gN (addG g (sC S) o q1 r1 q2 r2 q3 r3 nd) r i = gN g r i := if_neg (Nat.ne_of_lt h)
theorem adG_5 : gN (addG g (sC S) o q1 r1 q2 r2 q3 r3 nd) 5 (sC S) = q3 := if_pos rfl
theorem adG_a : gA (addG g (sC S) o q1 r1 q2 r2 q3 r3 nd) = gA g := rfl
theorem nodeV_12 : nodeV (addG g (sC S) o q1 r1 q2 r2 q3 r3 nd) (addS S 12 o1 o2 gp dp) (sC S) = [.ref (gA g (5 + o1))] := by unfold nodeV; rw [adS_w, adS_o, adG_a, if_pos rfl]
theorem nodeV_11 : nodeV (addG g (sC S) o q1 r1 q2 r2 q3 r3 nd) (addS S 11 o1 o2 gp dp) (sC S) = [.int (zI (o1 : Int))] := by unfold nodeV; rw [adS_w, adS_o, if_neg (by decide), if_pos rfl]
theorem nodeV_10 (h1 : o1 < sC S) (h2 : o2 < sC S) : nodeV (addG g (sC S) o q1 r1 q2 r2 q3 r3 nd) (addS S 10 o1 o2 gp dp) (sC S) = [.ref (gN g 0 o1), .ref (gN g 0 o2), .int (zI gp)] := by
  unfold nodeV; rw [adS_w, adS_o, adS_p, adS_g, adG_n h1, adG_n h2, if_neg (by decide), if_neg (by decide), if_pos rfl]
theorem nodeV_13 (h1 : o1 < sC S) (b : Bool) : nodeV (addG g (sC S) o q1 r1 q2 r2 q3 r3 nd) (addS S (if b then 14 else 13) o1 o2 gp dp) (sC S) = [.ref (gN g 0 o1), .int (bI b)] := by
  unfold nodeV; rw [adS_w, adS_o, adG_n h1]
  cases b
  · rw [if_neg (by decide), if_neg (by decide), if_neg (by decide), if_pos (by decide)]; rfl
  · rw [if_neg (by decide), if_neg (by decide), if_neg (by decide), if_pos (by decide)]; rfl
theorem nodeV_9 (h1 : o1 < sC S) (h2 : o2 < sC S) : nodeV (addG g (sC S) o q1 r1 q2 r2 q3 r3 nd) (addS S 9 o1 o2 gp dp) (sC S) = [.ref (gN g 0 o1), .ref (gN g 0 o2), .ref q3] := by
  unfold nodeV; rw [adS_w, adS_o, adS_p, adG_n h1, adG_n h2, adG_5, if_neg (by decide), if_neg (by decide), if_neg (by decide), if_neg (by decide), if_pos rfl]
theorem nodeV_0 (hw : w < 9) (h1 : o1 < sC S) (h2 : o2 < sC S) : nodeV (addG g (sC S) o q1 r1 q2 r2 q3 r3 nd) (addS S w o1 o2 gp dp) (sC S) = [.int (zI (w : Int)), .ref (gN g 0 o1), .ref (gN g 0 o2)] := by
  unfold nodeV; rw [adS_w, adS_o, adS_p, adG_n h1, adG_n h2, if_neg (by omega), if_neg (by omega), if_neg (by omega), if_neg (by omega), if_neg (by omega)]
end NV
/-- a node as the object of its class -/
theorem cRep.ex {k : Nat → ClassId} {L : List Nat} {f : Nat → va_E} {g : CG} {S : SA} (h : cRep k L f g S) {i : Nat} (hi : i < sC S) : exAt f (gN g 0 i) (zI (sD S i)) (gD g i) (gN g 1 i) (gN g 3 i) := ⟨exK (sW S i), nodeV g S i, exK_c _, (h.2.2.2.2.1 i hi).2.1.2⟩
theorem aOK.add {S : SA} (h : aOK S) (hc : sC S < 30) {w o1 o2 : Nat} {gp dp : Int} (hw : w ≤ 14) (hd : 1 ≤ dp ∧ dp ≤ 6) (h11 : w = 11 → o1 < 6) (h12 : w = 12 → o1 < 4) (hcm : w ≠ 11 → w ≠ 12 → o1 < sC S ∧ o2 < sC S) (hg : w = 10 → 0 ≤ gp ∧ gp ≤ 24) (h13 : 13 ≤ w → o2 = o1) : aOK (addS S w o1 o2 gp dp) := by
  refine ⟨h.1, h.2.1, h.2.2.1, by show sC S + 1 ≤ 30; omega, fun i hi => ?_⟩
  have hi : i < sC S + 1 := hi
  by_cases ci : i = sC S
  · subst ci
    unfold nodeOK comp
    rw [adS_w, adS_o, adS_p, adS_g, adS_d]
    exact ⟨hw, hd, h11, h12, fun q => hcm q.1 q.2, hg, h13⟩
  · have := h.2.2.2.2 i (by omega)
    unfold nodeOK comp at this ⊢
    rw [adN_w ci, adN_o ci, adN_p ci, adN_g ci, adN_d ci]
    exact this
theorem exK_4 {w : Nat} (h : w < 9) : exK w = 4 := by unfold exK; rw [if_neg (by omega), if_neg (by omega), if_neg (by omega), if_neg (by omega), if_neg (by omega)]
theorem exK_3 {b : Bool} : exK (if b then 14 else 13) = 3 := by cases b <;> decide
theorem w_widen {p : Program} {l : Launch} {e : Env} {R : Room} {s : State} {m : MethodId} {args : Array Value} {below : List Frame} {meth : Method} {c : Code} {H : Heap} {locs : List Loc} {cells slots : Nat} {Q : State → Prop} {g : JFrame} {k9 n9 : Nat} (h1 : cells ≤ k9) (h2 : slots ≤ n9) (kk : W p l e R s m args below meth c H locs k9 n9 Q g) : W p l e R s m args below meth c H locs cells slots Q g := fun T hT X => kk T hT (stand_widen X h1 h2)
