/-! the state that class and reference share: length, letters, marks (rows of ends), how many nodes; of each node: what it is, its parts (or letter, or kind), gap, depth -/
abbrev SA : Type := Int × (Nat → Int32) × (Nat → Nat → Int32) × Nat × (Nat → Nat) × (Nat → Nat) × (Nat → Nat) × (Nat → Int) × (Nat → Int)
abbrev sN (S : SA) : Int := S.1
abbrev sT (S : SA) : Nat → Int32 := S.2.1
abbrev sR (S : SA) : Nat → Nat → Int32 := S.2.2.1
abbrev sC (S : SA) : Nat := S.2.2.2.1
abbrev sW (S : SA) : Nat → Nat := S.2.2.2.2.1
abbrev sO (S : SA) : Nat → Nat := S.2.2.2.2.2.1
abbrev sP (S : SA) : Nat → Nat := S.2.2.2.2.2.2.1
abbrev sG (S : SA) : Nat → Int := S.2.2.2.2.2.2.2.1
abbrev sD (S : SA) : Nat → Int := S.2.2.2.2.2.2.2.2
/-- where the class's things lie: fixed addresses; of each node by role; the two arrays of references; whose row an array is; which nodes are needed; the nodes' rows -/
abbrev CG : Type := (Nat → Nat) × (Nat → Nat → Nat) × (Nat → Option Nat) × (Nat → Option Nat) × (Nat → Nat) × (Nat → Int32) × (Nat → Nat → Nat → Int32)
abbrev gA (g : CG) : Nat → Nat := g.1
abbrev gN (g : CG) : Nat → Nat → Nat := g.2.1
abbrev gM (g : CG) : Nat → Option Nat := g.2.2.1
abbrev gE (g : CG) : Nat → Option Nat := g.2.2.2.1
abbrev gO (g : CG) : Nat → Nat := g.2.2.2.2.1
abbrev gD (g : CG) : Nat → Int32 := g.2.2.2.2.2.1
abbrev gR (g : CG) : Nat → Nat → Nat → Int32 := g.2.2.2.2.2.2
def exK (w : Nat) : Nat := if w = 12 then 0 else if w = 11 then 1 else if w = 10 then 2 else if w = 13 ∨ w = 14 then 3 else if w = 9 then 6 else 4
theorem exK_le (w : Nat) : exK w ≤ 6 := by unfold exK; repeat' split
                                           all_goals omega
theorem exK_c (w : Nat) : exC (exK w) := by unfold exK exC; repeat' split
                                            all_goals omega
def nodeV (g : CG) (S : SA) (i : Nat) : List Value := if sW S i = 12 then [.ref (gA g (5 + sO S i))] else if sW S i = 11 then [.int (zI (sO S i : Int))] else if sW S i = 10 then [.ref (gN g 0 (sO S i)), .ref (gN g 0 (sP S i)), .int (zI (sG S i))] else if sW S i = 13 ∨ sW S i = 14 then [.ref (gN g 0 (sO S i)), .int (bI (decide (sW S i = 14)))] else if sW S i = 9 then [.ref (gN g 0 (sO S i)), .ref (gN g 0 (sP S i)), .ref (gN g 5 i)] else [.int (zI (sW S i : Int)), .ref (gN g 0 (sO S i)), .ref (gN g 0 (sP S i))]
def setAt (k : Nat → ClassId) (L : List Nat) (f : Nat → va_E) (own : Nat → Nat) (h r : Nat) (G : Nat → Int32) (o : Nat) : Prop := h ∈ L ∧ f h = .inr (5, [.ref r]) ∧ r ∈ L ∧ f r = .inl (k 0, 24, .inl G) ∧ own r = o
def comp (S : SA) (j : Nat) : Prop := sW S j ≠ 11 ∧ sW S j ≠ 12
def needOK (nd : Nat → Int32) (S : SA) (i : Nat) : Prop := bt (nd i) i = true ∧ ∀ j, bt (nd i) j = true → j ≤ i ∧ (comp S j → bt (nd i) (sO S j) = true ∧ bt (nd i) (sP S j) = true)
def nodeR (k : Nat → ClassId) (L : List Nat) (f : Nat → va_E) (g : CG) (S : SA) (i : Nat) : Prop :=
  (gN g 0 i ∈ L ∧ f (gN g 0 i) = .inr (exK (sW S i), .int (zI (sD S i)) :: .int (gD g i) :: .ref (gN g 1 i) :: .ref (gN g 3 i) :: nodeV g S i)) ∧ setAt k L f (gO g) (gN g 1 i) (gN g 2 i) (gR g 2 i) (5 + 3 * i) ∧ setAt k L f (gO g) (gN g 3 i) (gN g 4 i) (gR g 4 i) (6 + 3 * i) ∧ (sW S i = 9 → setAt k L f (gO g) (gN g 5 i) (gN g 6 i) (gR g 6 i) (7 + 3 * i)) ∧ needOK (gD g) S i
def cRep (k : Nat → ClassId) (L : List Nat) (f : Nat → va_E) (g : CG) (S : SA) : Prop :=
  (f (gA g 0) = .inr (8, [.ref (gA g 1), .ref (gA g 4), .int (zI (sC S : Int))]) ∧ f (gA g 1) = .inr (7, [.ref (gA g 2), .ref (gA g 3), .int (zI (sN S))]) ∧ f (gA g 2) = .inl (k 0, 24, .inl (sT S)) ∧ f (gA g 3) = .inl (k 3, 4, .inr (.inr (.inr (.inr (gM g))))) ∧ f (gA g 4) = .inl (k 2, 30, .inr (.inr (.inr (.inr (gE g)))))) ∧ (∀ j, j < 5 → gA g j ∈ L) ∧ gO g (gA g 2) = 0 ∧ (∀ j, j < 4 → gM g j = some (gA g (5 + j)) ∧ setAt k L f (gO g) (gA g (5 + j)) (gA g (9 + j)) (sR S j) (1 + j)) ∧ (∀ i, i < sC S → gE g i = some (gN g 0 i) ∧ nodeR k L f g S i) ∧ ∀ i, sC S ≤ i → i < 30 → gE g i = none
/-- rows whose bits are regions of a text of n letters -/
def rowsOK (n : Int) (r : Nat → Int32) : Prop := ∀ j, j < 24 → ∀ t, t < 32 → bt (r j) t = true → j < t ∧ (t : Int) ≤ n
def nodeOK (S : SA) (i : Nat) : Prop := sW S i ≤ 14 ∧ (1 ≤ sD S i ∧ sD S i ≤ 6) ∧ (sW S i = 11 → sO S i < 6) ∧ (sW S i = 12 → sO S i < 4) ∧ (comp S i → sO S i < i ∧ sP S i < i) ∧ (sW S i = 10 → 0 ≤ sG S i ∧ sG S i ≤ 24) ∧ (13 ≤ sW S i → sP S i = sO S i)
def aOK (S : SA) : Prop := (0 ≤ sN S ∧ sN S ≤ 24) ∧ (∀ j : Nat, (j : Int) < sN S → ∃ y : Nat, y < 6 ∧ sT S j = zI (y : Int)) ∧ (∀ q, q < 4 → rowsOK (sN S) (sR S q)) ∧ sC S ≤ 30 ∧ ∀ i, i < sC S → nodeOK S i
theorem setAt.tr {k : Nat → ClassId} {L L2 : List Nat} {f F : Nat → va_E} {own own2 : Nat → Nat} {h r o : Nat} {G : Nat → Int32} (hs : setAt k L f own h r G o) (hL : ∀ a, a ∈ L → a ∈ L2) (h1 : F h = f h) (h2 : F r = f r) (h3 : own2 r = own r) : setAt k L2 F own2 h r G o := ⟨hL _ hs.1, h1.trans hs.2.1, hL _ hs.2.2.1, h2.trans hs.2.2.2.1, h3.trans hs.2.2.2.2⟩
/-- the same node data below and at i -/
def sameN (S S2 : SA) (i : Nat) : Prop := ∀ j, j ≤ i → sW S2 j = sW S j ∧ sO S2 j = sO S j ∧ sP S2 j = sP S j ∧ sG S2 j = sG S j ∧ sD S2 j = sD S j
theorem needOK.tr {nd nd2 : Nat → Int32} {S S2 : SA} {i : Nat} (h : needOK nd S i) (hs : sameN S S2 i) (hn : nd2 i = nd i) : needOK nd2 S2 i := by
  refine ⟨by rw [hn]; exact h.1, fun j hj => ?_⟩
  rw [hn] at hj
  obtain ⟨a, b⟩ := h.2 j hj
  refine ⟨a, fun hc => ?_⟩
  obtain ⟨e1, e2, e3, e4, e5⟩ := hs j a
  rw [hn, e2, e3]
  exact b ⟨by rw [← e1]; exact hc.1, by rw [← e1]; exact hc.2⟩
/-- a node stays as it is, where its cells and its ghosts stay -/
theorem nodeR.tr {k : Nat → ClassId} {L L2 : List Nat} {f F : Nat → va_E} {g g2 : CG} {S S2 : SA} {i : Nat} (h : nodeR k L f g S i) (hL : ∀ a, a ∈ L → a ∈ L2) (h1 : ∀ a ci fs, a ∈ L → f a = .inr (ci, fs) → ci ≤ 6 → F a = f a) (h2 : ∀ a G, a ∈ L → f a = .inl (k 0, 24, .inl G) → 5 ≤ gO g a → F a = f a) (hs : sameN S S2 i) (hok : nodeOK S i)
    (hA : ∀ j, gA g2 j = gA g j) (hN : ∀ r j, j ≤ i → gN g2 r j = gN g r j) (hO : ∀ a, a ∈ L → gO g2 a = gO g a) (hD : gD g2 i = gD g i) (hR : ∀ r, gR g2 r i = gR g r i) : nodeR k L2 F g2 S2 i := by
  obtain ⟨⟨m0, e0⟩, s1, s2, s3, hn⟩ := h
  obtain ⟨e1, e2, e3, e4, e5⟩ := hs i (Nat.le_refl i)
  have tr : ∀ (h9 r9 o9 : Nat) (G9 : Nat → Int32), setAt k L f (gO g) h9 r9 G9 o9 → 5 ≤ o9 → setAt k L2 F (gO g2) h9 r9 G9 o9 := fun h9 r9 o9 G9 hs9 ho => hs9.tr hL (h1 _ _ _ hs9.1 hs9.2.1 (by omega)) (h2 _ _ hs9.2.2.1 hs9.2.2.2.1 (by rw [hs9.2.2.2.2]; exact ho)) (hO _ hs9.2.2.1)
  have hv : nodeV g2 S2 i = nodeV g S i := by
    unfold nodeV
    rw [e1, e2, e3, e4, hA, hN 5 i (Nat.le_refl i)]
    have hk := hok.2.2.2.2.1
    by_cases c1 : sW S i = 12
    · rw [if_pos c1, if_pos c1]
    · by_cases c2 : sW S i = 11
      · rw [if_neg c1, if_neg c1, if_pos c2, if_pos c2]
      · obtain ⟨q1, q2⟩ := hk ⟨c2, c1⟩
        rw [hN 0 (sO S i) (Nat.le_of_lt q1), hN 0 (sP S i) (Nat.le_of_lt q2)]
  refine ⟨⟨by rw [hN 0 i (Nat.le_refl i)]; exact hL _ m0, ?_⟩, ?_, ?_, fun h9 => ?_, hn.tr hs hD⟩
  · rw [hN 0 i (Nat.le_refl i), hN 1 i (Nat.le_refl i), hN 3 i (Nat.le_refl i), hv, e1, e5, hD]
    exact (h1 _ _ _ m0 e0 (exK_le _)).trans e0
  · rw [hN 1 i (Nat.le_refl i), hN 2 i (Nat.le_refl i), hR 2]; exact tr _ _ _ _ s1 (by omega)
  · rw [hN 3 i (Nat.le_refl i), hN 4 i (Nat.le_refl i), hR 4]; exact tr _ _ _ _ s2 (by omega)
  · rw [e1] at h9
    rw [hN 5 i (Nat.le_refl i), hN 6 i (Nat.le_refl i), hR 6]; exact tr _ _ _ _ (s3 h9) (by omega)
theorem sameN.rf {S S2 : SA} (h1 : sW S2 = sW S) (h2 : sO S2 = sO S) (h3 : sP S2 = sP S) (h4 : sG S2 = sG S) (h5 : sD S2 = sD S) (i : Nat) : sameN S S2 i := fun j _ => by rw [h1, h2, h3, h4, h5]; exact ⟨rfl, rfl, rfl, rfl, rfl⟩
/-- the state behind insert and remove -/
def insS (S : SA) (z y : Int) (G : Nat → Nat → Int32) : SA := (sN S + 1, upd (shU (sT S) z (sN S) z) z.toNat (zI y), G, S.2.2.2)
def remS (S : SA) (z : Int) (G : Nat → Nat → Int32) : SA := (sN S - 1, shD (sT S) z (sN S - 1), G, S.2.2.2)
/-- behind a change of the text and of the marks' rows alone -/
theorem cRep.text {k : Nat → ClassId} {L : List Nat} {f F : Nat → va_E} {g : CG} {S S2 : SA} (h : cRep k L f g S) (hok : aOK S) (ht : F (gA g 1) = .inr (7, [.ref (gA g 2), .ref (gA g 3), .int (zI (sN S2))])) (hl : F (gA g 2) = .inl (k 0, 24, .inl (sT S2))) (hm : ∀ j, j < 4 → F (gA g (9 + j)) = .inl (k 0, 24, .inl (sR S2 j))) (hs : S2.2.2.2 = S.2.2.2) (hF : ∀ a, a ≠ gA g 1 → a ≠ gA g 2 → (∀ j, j < 4 → a ≠ gA g (9 + j)) → F a = f a) : cRep k L F g S2 := by
  obtain ⟨⟨a0, a1, a2, a3, a4⟩, aL, ao, aM, aE, aX⟩ := h
  have hc : sC S2 = sC S := congrArg (fun x : Nat × (Nat → Nat) × (Nat → Nat) × (Nat → Nat) × (Nat → Int) × (Nat → Int) => x.1) hs
  have hobj : ∀ a ci fs, f a = .inr (ci, fs) → ci ≠ 7 → F a = f a := fun a ci fs h9 hci => hF a (ne_k h9 a1 (by simp [hci])) (ne_k h9 a2 (by simp)) (fun j hj => ne_k h9 (aM j hj).2.2.2.2.1 (by simp))
  have hrow : ∀ a G, f a = .inl (k 0, 24, .inl G) → 5 ≤ gO g a → F a = f a := fun a G h9 ho => hF a (ne_k h9 a1 (by simp)) (fun e => by rw [e, ao] at ho; omega) (fun j hj e => by rw [e, (aM j hj).2.2.2.2.2] at ho; omega)
  refine ⟨⟨?_, ht, hl, ?_, ?_⟩, aL, ao, fun j hj => ⟨(aM j hj).1, (aM j hj).2.1, (hobj _ _ _ (aM j hj).2.2.1 (by decide)).trans (aM j hj).2.2.1, (aM j hj).2.2.2.1, hm j hj, (aM j hj).2.2.2.2.2⟩, fun i hi => ?_, ?_⟩
  · rw [hc]; exact (hobj _ _ _ a0 (by decide)).trans a0
  · exact (hF _ (ne_k a3 a1 (by simp)) (ne_k a3 a2 (by simp)) (fun j hj => ne_k a3 (aM j hj).2.2.2.2.1 (by simp))).trans a3
  · exact (hF _ (ne_k a4 a1 (by simp)) (ne_k a4 a2 (by simp)) (fun j hj => ne_k a4 (aM j hj).2.2.2.2.1 (by simp))).trans a4
  · rw [hc] at hi
    refine ⟨(aE i hi).1, (aE i hi).2.tr (fun _ h9 => h9) (fun a ci fs _ h9 hci => hobj a ci fs h9 (by omega)) (fun a G _ h9 ho => hrow a G h9 ho) (fun j _ => ?_) (hok.2.2.2.2 i hi) (fun _ => rfl) (fun _ _ _ => rfl) (fun _ _ => rfl) rfl (fun _ => rfl)⟩
    show S2.2.2.2.2.1 j = _ ∧ S2.2.2.2.2.2.1 j = _ ∧ S2.2.2.2.2.2.2.1 j = _ ∧ S2.2.2.2.2.2.2.2.1 j = _ ∧ S2.2.2.2.2.2.2.2.2 j = _
    rw [hs]
    exact ⟨rfl, rfl, rfl, rfl, rfl⟩
  · rw [hc]; exact aX
/-- behind a change of one kind's marks -/
theorem cRep.marks {k : Nat → ClassId} {L : List Nat} {f : Nat → va_E} {g : CG} {S : SA} (h : cRep k L f g S) (hok : aOK S) {q : Nat} (hq : q < 4) (G : Nat → Int32) : cRep k L (va_up f (gA g (9 + q)) (.inl (k 0, 24, .inl G))) g (sN S, sT S, (fun j => if j = q then G else sR S j), S.2.2.2) := by
  have h0 := h
  obtain ⟨⟨a0, a1, a2, a3, a4⟩, aL, ao, aM, aE, aX⟩ := h0
  refine h.text hok ((va_up_ne _ _ (ne_k a1 (aM q hq).2.2.2.2.1 (by simp))).trans a1) ((va_up_ne _ _ (fun e => ?_)).trans a2) (fun j hj => ?_) rfl (fun a _ _ h3 => va_up_ne _ _ (h3 q hq))
  · have := (aM q hq).2.2.2.2.2
    rw [← e, ao] at this
    omega
  · show va_up f (gA g (9 + q)) _ (gA g (9 + j)) = .inl (k 0, 24, .inl (if j = q then G else sR S j))
    by_cases c : j = q
    · subst c
      rw [va_up_self, if_pos rfl]
    · rw [va_up_ne _ _ (fun e => c (by
        have e1 := (aM j hj).2.2.2.2.2
        rw [e, (aM q hq).2.2.2.2.2] at e1
        omega)), if_neg c]
      exact (aM j hj).2.2.2.2.1
/-- behind a change of one of the nodes' rows -/
theorem cRep.row {k : Nat → ClassId} {L : List Nat} {f : Nat → va_E} {g : CG} {S : SA} (h : cRep k L f g S) {i r : Nat} (hi : i < sC S) (hr : r = 2 ∨ r = 4 ∨ (r = 6 ∧ sW S i = 9)) (G : Nat → Int32) : cRep k L (va_up f (gN g r i) (.inl (k 0, 24, .inl G))) (gA g, gN g, gM g, gE g, gO g, gD g, fun r9 i9 => if r9 = r ∧ i9 = i then G else gR g r9 i9) S := by
  obtain ⟨⟨a0, a1, a2, a3, a4⟩, aL, ao, aM, aE, aX⟩ := h
  obtain ⟨-, ⟨s1a, s1b, s1c, s1d, s1e⟩, ⟨s2a, s2b, s2c, s2d, s2e⟩, s3, -⟩ := (aE i hi).2
  have hx : ∃ G0, f (gN g r i) = .inl (k 0, 24, .inl G0) ∧ gO g (gN g r i) = 4 + r / 2 + 3 * i := by
    rcases hr with rfl | rfl | ⟨rfl, h9⟩
    · exact ⟨_, s1d, by rw [s1e]⟩
    · exact ⟨_, s2d, by rw [s2e]⟩
    · exact ⟨_, (s3 h9).2.2.2.1, by rw [(s3 h9).2.2.2.2]⟩
  obtain ⟨G0, hx1, hx2⟩ := hx
  have hobj : ∀ a ci fs, f a = .inr (ci, fs) → va_up f (gN g r i) (.inl (k 0, 24, .inl G)) a = .inr (ci, fs) := fun a ci fs h9 => (va_up_ne _ _ (ne_k h9 hx1 (by simp))).trans h9
  have hown : ∀ a x, gO g a ≠ 4 + r / 2 + 3 * i → f a = x → va_up f (gN g r i) (.inl (k 0, 24, .inl G)) a = x := fun a x h9 h8 => (va_up_ne _ _ (fun e => h9 (by rw [e]; exact hx2))).trans h8
  have hset : ∀ (h9 r9 o9 : Nat) (G9 : Nat → Int32), setAt k L f (gO g) h9 r9 G9 o9 → o9 ≠ 4 + r / 2 + 3 * i → setAt k L (va_up f (gN g r i) (.inl (k 0, 24, .inl G))) (gO g) h9 r9 G9 o9 := fun h9 r9 o9 G9 hs9 ho => ⟨hs9.1, hobj _ _ _ hs9.2.1, hs9.2.2.1, hown _ _ (by rw [hs9.2.2.2.2]; exact ho) hs9.2.2.2.1, hs9.2.2.2.2⟩
  refine ⟨⟨hobj _ _ _ a0, hobj _ _ _ a1, hown _ _ (by rw [ao]; omega) a2, (va_up_ne _ _ (ne_k a3 hx1 (by simp))).trans a3, (va_up_ne _ _ (ne_k a4 hx1 (by simp))).trans a4⟩, aL, ao, fun j hj => ⟨(aM j hj).1, hset _ _ _ _ (aM j hj).2 (by omega)⟩, fun j hj => ⟨(aE j hj).1, ?_⟩, aX⟩
  obtain ⟨⟨m0, e0⟩, t1, t2, t3, hn⟩ := (aE j hj).2
  have hone : ∀ (q h9 : Nat), (q = 2 ∨ q = 4 ∨ q = 6) → setAt k L f (gO g) h9 (gN g q j) (gR g q j) (4 + q / 2 + 3 * j) → setAt k L (va_up f (gN g r i) (.inl (k 0, 24, .inl G))) (gO g) h9 (gN g q j) (if q = r ∧ j = i then G else gR g q j) (4 + q / 2 + 3 * j) := fun q h9 hq hs9 => by
    by_cases c : q = r ∧ j = i
    · rw [if_pos c]
      obtain ⟨rfl, rfl⟩ := c
      exact ⟨hs9.1, hobj _ _ _ hs9.2.1, hs9.2.2.1, va_up_self _ _ _, hs9.2.2.2.2⟩
    · rw [if_neg c]
      refine hset _ _ _ _ hs9 (fun e => c ?_)
      have hr' : r = 2 ∨ r = 4 ∨ r = 6 := by rcases hr with h1 | h1 | ⟨h1, -⟩ <;> omega
      rcases hq with rfl | rfl | rfl <;> rcases hr' with rfl | rfl | rfl <;> first | exact ⟨rfl, by omega⟩ | (exfalso; omega)
  exact ⟨⟨m0, hobj _ _ _ e0⟩, hone 2 _ (by omega) t1, hone 4 _ (by omega) t2, fun h9 => hone 6 _ (by omega) (t3 h9), hn⟩
