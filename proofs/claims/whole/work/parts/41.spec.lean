/-! what each call answers: kk the place of its exception, 0 for none; v its answer; S2 the state behind it -/
def SpInsert (S : SA) (z y : Int) (kk : Int) (v : Int32) (S2 : SA) : Prop := (¬ (0 ≤ z ∧ z ≤ sN S) ∧ kk = 1 ∧ S = S2) ∨ ((0 ≤ z ∧ z ≤ sN S) ∧ ¬ (0 ≤ y ∧ y < 6) ∧ kk = 2 ∧ S = S2) ∨ ((0 ≤ z ∧ z ≤ sN S) ∧ (0 ≤ y ∧ y < 6) ∧ sN S = 24 ∧ kk = 3 ∧ S = S2) ∨ ((0 ≤ z ∧ z ≤ sN S) ∧ (0 ≤ y ∧ y < 6) ∧ sN S < 24 ∧ kk = 0 ∧ v = zI (sN S + 1) ∧ ∃ G : Nat → Nat → Int32, (∀ i, i < 4 → ∀ j : Nat, j < 24 → G i j = op2 (sR S i) z 24 j) ∧ S2 = insS S z y G)
def SpRemove (S : SA) (z : Int) (kk : Int) (v : Int32) (S2 : SA) : Prop := (¬ (0 ≤ z ∧ z < sN S) ∧ kk = 1 ∧ S = S2) ∨ ((0 ≤ z ∧ z < sN S) ∧ kk = 0 ∧ v = sT S z.toNat ∧ S2 = remS S z (fun i => fa_fill (clF (sR S i) z) (sR S i) 24))
def SpLetterAt (S : SA) (z : Int) (kk : Int) (v : Int32) (S2 : SA) : Prop := (¬ (0 ≤ z ∧ z < sN S) ∧ kk = 1 ∧ S = S2) ∨ ((0 ≤ z ∧ z < sN S) ∧ kk = 0 ∧ v = sT S z.toNat ∧ S = S2)
def SpMark (S : SA) (z y x : Int) (kk : Int) (v : Int32) (S2 : SA) : Prop := (¬ (0 ≤ z ∧ z < 4) ∧ kk = 1 ∧ S = S2) ∨ ((0 ≤ z ∧ z < 4) ∧ ¬ (0 ≤ y ∧ y < x ∧ x ≤ sN S) ∧ kk = 2 ∧ S = S2) ∨ ((0 ≤ z ∧ z < 4) ∧ (0 ≤ y ∧ y < x ∧ x ≤ sN S) ∧ kk = 0 ∧ v = bI (!hasB (sR S z.toNat) y x) ∧ S2 = kindS S z.toNat (addR (sR S z.toNat) y x))
def SpUnmark (S : SA) (z y : Int) (kk : Int) (v : Int32) (S2 : SA) : Prop := (¬ (0 ≤ z ∧ z < 4) ∧ kk = 1 ∧ S = S2) ∨ ((0 ≤ z ∧ z < 4) ∧ ¬ (0 ≤ y ∧ y < ((sizeR (sR S z.toNat) : Nat) : Int)) ∧ kk = 1 ∧ S = S2) ∨ ((0 ≤ z ∧ z < 4) ∧ kk = 0 ∧ ∃ a b : Nat, a < 24 ∧ b ≤ 24 ∧ hasB (sR S z.toNat) (a : Int) (b : Int) = true ∧ ((fb_ct (linB (sR S z.toNat)) (25 * a + b) : Nat) : Int) = y ∧ v = zI ((sizeR (dropR (sR S z.toNat) (a : Int) (b : Int)) : Nat) : Int) ∧ S2 = kindS S z.toNat (dropR (sR S z.toNat) (a : Int) (b : Int)))
def SpLetter (S : SA) (z : Int) (kk : Int) (v : Int32) (S2 : SA) : Prop := (¬ (0 ≤ z ∧ z < 6) ∧ kk = 1 ∧ S = S2) ∨ ((0 ≤ z ∧ z < 6) ∧ sC S = 30 ∧ kk = 2 ∧ S = S2) ∨ ((0 ≤ z ∧ z < 6) ∧ sC S < 30 ∧ kk = 0 ∧ v = zI (sC S : Int) ∧ S2 = addS S 11 z.toNat z.toNat 0 1)
def SpMarked (S : SA) (z : Int) (kk : Int) (v : Int32) (S2 : SA) : Prop := (¬ (0 ≤ z ∧ z < 4) ∧ kk = 1 ∧ S = S2) ∨ ((0 ≤ z ∧ z < 4) ∧ sC S = 30 ∧ kk = 2 ∧ S = S2) ∨ ((0 ≤ z ∧ z < 4) ∧ sC S < 30 ∧ kk = 0 ∧ v = zI (sC S : Int) ∧ S2 = addS S 12 z.toNat z.toNat 0 1)
def isN (S : SA) (z : Int) : Prop := 0 ≤ z ∧ z < (sC S : Int)
def mxD (S : SA) (z y : Int) : Int := 1 + max (sD S z.toNat) (sD S y.toNat)
def SpPair (S : SA) (x z y : Int) (kk : Int) (v : Int32) (S2 : SA) : Prop := (¬ (isN S z ∧ isN S y) ∧ kk = 1 ∧ S = S2) ∨ ((isN S z ∧ isN S y) ∧ ¬ (0 ≤ x ∧ x ≤ 9) ∧ kk = 2 ∧ S = S2) ∨ ((isN S z ∧ isN S y) ∧ (0 ≤ x ∧ x ≤ 9) ∧ (sC S = 30 ∨ 6 < mxD S z y) ∧ kk = 3 ∧ S = S2) ∨ ((isN S z ∧ isN S y) ∧ (0 ≤ x ∧ x ≤ 9) ∧ sC S < 30 ∧ mxD S z y ≤ 6 ∧ kk = 0 ∧ v = zI (sC S : Int) ∧ S2 = addS S x.toNat z.toNat y.toNat 0 (mxD S z y))
def SpNear (S : SA) (z y x : Int) (kk : Int) (v : Int32) (S2 : SA) : Prop := (¬ (isN S z ∧ isN S y) ∧ kk = 1 ∧ S = S2) ∨ ((isN S z ∧ isN S y) ∧ ¬ (0 ≤ x ∧ x ≤ 24) ∧ kk = 2 ∧ S = S2) ∨ ((isN S z ∧ isN S y) ∧ (0 ≤ x ∧ x ≤ 24) ∧ (sC S = 30 ∨ 6 < mxD S z y) ∧ kk = 3 ∧ S = S2) ∨ ((isN S z ∧ isN S y) ∧ (0 ≤ x ∧ x ≤ 24) ∧ sC S < 30 ∧ mxD S z y ≤ 6 ∧ kk = 0 ∧ v = zI (sC S : Int) ∧ S2 = addS S 10 z.toNat y.toNat x (mxD S z y))
def SpOnly (S : SA) (z : Int) (b9 : Bool) (kk : Int) (v : Int32) (S2 : SA) : Prop := (¬ isN S z ∧ kk = 1 ∧ S = S2) ∨ (isN S z ∧ (sC S = 30 ∨ 6 < mxD S z z) ∧ kk = 2 ∧ S = S2) ∨ (isN S z ∧ sC S < 30 ∧ mxD S z z ≤ 6 ∧ kk = 0 ∧ v = zI (sC S : Int) ∧ S2 = addS S (if b9 then 14 else 13) z.toNat z.toNat 0 (mxD S z z))
def SpQ (S : SA) (z : Int) (val : (Nat → Int32) → Int32) (kk : Int) (v : Int32) (S2 : SA) : Prop := (¬ isN S z ∧ kk = 1 ∧ S = S2) ∨ (isN S z ∧ kk = 0 ∧ S = S2 ∧ ∃ G : Nat → Int32, Rp G (sem S z.toNat) ∧ v = val G)
def SpRegionAt (S : SA) (z y : Int) (kk : Int) (v : Int32) (S2 : SA) : Prop := (¬ isN S z ∧ kk = 1 ∧ S = S2) ∨ (isN S z ∧ kk = 1 ∧ S = S2 ∧ ∃ G : Nat → Int32, Rp G (sem S z.toNat) ∧ ¬ (0 ≤ y ∧ y < ((sizeR G : Nat) : Int))) ∨ (isN S z ∧ kk = 0 ∧ S = S2 ∧ ∃ (G : Nat → Int32) (a b : Nat), Rp G (sem S z.toNat) ∧ a < 24 ∧ b ≤ 24 ∧ hasB G (a : Int) (b : Int) = true ∧ ((fb_ct (linB G) (25 * a + b) : Nat) : Int) = y ∧ v = zI (100 * (a : Int) + (b : Int)))
abbrev vSize (G : Nat → Int32) : Int32 := zI ((sizeR G : Nat) : Int)
abbrev vCov (G : Nat → Int32) : Int32 := zI ((covN G : Nat) : Int)
abbrev vDep (G : Nat → Int32) : Int32 := zI ((depN G : Nat) : Int)
abbrev vLon (G : Nat → Int32) : Int32 := zI (lonI G)
abbrev vHas (y x : Int) (G : Nat → Int32) : Int32 := bI (hasB G y x)
/-- the reference behind a call -/
def mP (k : Nat → ClassId) (L : List Nat) (a : Nat → Nat) (kk : Int) (v : Int32) (S2 : SA) (r9 : Int32) (u : va_W) : Prop := (kk = 0 → r9 = v) ∧ ∃ (F : Nat → va_E) (B1 B2 B3 B4 B5 B6 B7 B8 B9 B10 : Nat → Int32), u = va_pl L F ∧ mRep k L F a kk (sN S2) (sC S2 : Int) B1 B2 B3 B4 B5 B6 B7 B8 B9 B10 ∧ mSync S2 B1 B2 B3 B4 B5 B6 B7
section MWI
variable {l : Launch} {y : MethodName} {ws : List Cond} {rm rm2 : Room} {Pc : Array Value → State → Prop} {mc ms : Nat} {free : Addr → Prop}
theorem room_mono {s : State} {pl : Platform} (h : (rm.frames ≤ rm2.frames ∧ rm.cells ≤ rm2.cells) ∧ rm.slots ≤ rm2.slots ∧ rm.locals ≤ rm2.locals) (hr : s.hasRoom pl rm2 = true) : s.hasRoom pl rm = true := by
  unfold State.hasRoom at hr ⊢
  simp only [Bool.and_eq_true, decide_eq_true_eq] at hr ⊢
  obtain ⟨⟨⟨⟨h1, h2, h3, h4, h5, h6⟩, h7⟩, h8⟩, h9⟩ := hr
  exact ⟨⟨⟨⟨by omega, by omega, by omega, by omega, by omega, h6⟩, by omega⟩, by omega⟩, h9⟩
theorem Met.wi {post post2 : Int32 → va_W → Prop} {B : va_W → State → Prop} {A1 : Nat → Prop} (h : Met l y ws rm Pc (va_Qi post B A1) mc ms free) (hr : (rm.frames ≤ rm2.frames ∧ rm.cells ≤ rm2.cells) ∧ rm.slots ≤ rm2.slots ∧ rm.locals ≤ rm2.locals) (hp : ∀ r u, post r u → post2 r u) : Met l y ws rm2 Pc (va_Qi post2 B A1) mc ms free := by
  intro p e ha hc hk s m args below hf happ hP hK
  have happ2 : (headSpec ws rm).appliesLoose y e.platform s = true := by
    unfold Spec.appliesLoose at happ ⊢
    rw [hf] at happ ⊢
    simp only [Bool.and_eq_true] at happ ⊢
    exact ⟨⟨happ.1.1, room_mono hr happ.1.2⟩, happ.2⟩
  obtain ⟨n, o, h1, h2, h3, ⟨⟨r, u, e1, e2, e3⟩, h4⟩, h5⟩ := h p e ha hc hk s m args below hf happ2 hP hK
  exact ⟨n, o, h1, h2, h3, ⟨⟨r, u, e1, hp r u e2, e3⟩, h4⟩, h5⟩
end MWI
