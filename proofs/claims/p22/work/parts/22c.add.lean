section ADD
variable {p : Program} {l : Launch} {e : Env} {R : Room} {s : State} {m : MethodId} {args : Array Value} {below : List Frame} {meth : Method} {c : Code} {H : Heap} {locs : List Loc} {cells slots : Nat} {Q : State → Prop} {cc : ByteArray} {pc : Nat} {ls : Array Slot} {rest : List Value} {D : va_G} {TY : List (ClassId × FieldType)} {A : Nat → Prop} {H0 : Heap} {L : List Nat} {f : Nat → va_E} {a : Nat}
/-- a node is stored into an array of expressions -/
theorem pl_astqE (hexec : p.tables.exec = Jvm.exec) (hb : c.code = cc) (hNW : NWs s) (hK : va_K D vwCl TY s) (hP : va_P D vwCl (va_pl L f) H) (hD : va_D A (va_pl L f)) (hS : va_S A H0 H locs) (ha : a ∈ L) (t0 : Nat) {cA : ClassId} {n v : Nat} {g : Nat → Option Nat} (he : f a = .inl (cA, n, .inr (.inr (.inr (.inr g))))) (ht : TY[t0]? = some (cA, .object RX0)) (hv : v ∈ L) {d nd : Int32} {gs as : Nat} (hx : exAt f v d nd gs as) {z : Int} (j : Nat) (hz : z = j) (hj : j < n) (hn : n < 2147483648) (hdg : decode cc pc = .ok (.aastore, 1))
    (kk : ∀ (H1 : Heap) (locs1 : List Loc), va_P D vwCl (va_pl L (va_up f a (.inl (cA, n, .inr (.inr (.inr (.inr (va_up g j (some v))))))))) H1 → va_D A (va_pl L (va_up f a (.inl (cA, n, .inr (.inr (.inr (.inr (va_up g j (some v))))))))) → va_S A H0 H1 locs1 → W p l e R s m args below meth c H1 locs1 cells slots Q (F0 m (pc + 1) ls rest)) : W p l e R s m args below meth c H locs cells slots Q (F0 m pc ls (.ref v :: .int (zI z) :: .ref a :: rest)) := by
  obtain ⟨q0, hq⟩ := pl_k ha he
  obtain ⟨ci, rs, hc, hfv⟩ := hx
  obtain ⟨qk, hqk⟩ := pl_k hv hfv
  have go : ∀ (r : vw_C), vwCl[ci]? = some r → va_Nw (.castable r.1 RX0) s → W p l e R s m args below meth c H locs cells slots Q (F0 m pc ls (.ref v :: .int (zI z) :: .ref a :: rest)) := fun r hr hw => by
    refine va_astqO hexec hb hK hP hD hS q0 t0 qk ci hq ht hw hqk hr (zI_in (by omega) hn) hdg ?_
    rw [zI_cl (by omega), hz, Int.toNat_natCast, pl_set hD ha he hq]
    exact kk
  unfold exC at hc
  rcases (show ci = 0 ∨ ci = 1 ∨ ci = 2 ∨ ci = 3 ∨ ci = 4 ∨ ci = 6 by omega) with rfl | rfl | rfl | rfl | rfl | rfl
  · exact go (RX1, TX1, 5) rfl (hNW (.castable RX1 RX0) (by decide +kernel))
  · exact go (RX2, TX2, 5) rfl (hNW (.castable RX2 RX0) (by decide +kernel))
  · exact go (RX3, TX3, 7) rfl (hNW (.castable RX3 RX0) (by decide +kernel))
  · exact go (RX4, TX4, 6) rfl (hNW (.castable RX4 RX0) (by decide +kernel))
  · exact go (RX5, TX5, 7) rfl (hNW (.castable RX5 RX0) (by decide +kernel))
  · exact go (RX7, TX7, 7) rfl (hNW (.castable RX7 RX0) (by decide +kernel))
/-- a set of regions is stored into an array of such -/
theorem pl_astq5 (hexec : p.tables.exec = Jvm.exec) (hb : c.code = cc) (hK : va_K D vwCl TY s) (hP : va_P D vwCl (va_pl L f) H) (hD : va_D A (va_pl L f)) (hS : va_S A H0 H locs) (ha : a ∈ L) (t0 : Nat) {cA : ClassId} {n v : Nat} {g : Nat → Option Nat} (he : f a = .inl (cA, n, .inr (.inr (.inr (.inr g))))) (ht : TY[t0]? = some (cA, .object RX6)) (hv : v ∈ L) {vs : List Value} (hx : f v = .inr (5, vs)) {z : Int} (j : Nat) (hz : z = j) (hj : j < n) (hn : n < 2147483648) (hdg : decode cc pc = .ok (.aastore, 1))
    (kk : ∀ (H1 : Heap) (locs1 : List Loc), va_P D vwCl (va_pl L (va_up f a (.inl (cA, n, .inr (.inr (.inr (.inr (va_up g j (some v))))))))) H1 → va_D A (va_pl L (va_up f a (.inl (cA, n, .inr (.inr (.inr (.inr (va_up g j (some v))))))))) → va_S A H0 H1 locs1 → W p l e R s m args below meth c H1 locs1 cells slots Q (F0 m (pc + 1) ls rest)) : W p l e R s m args below meth c H locs cells slots Q (F0 m pc ls (.ref v :: .int (zI z) :: .ref a :: rest)) := by
  obtain ⟨q0, hq⟩ := pl_k ha he
  obtain ⟨qk, hqk⟩ := pl_k hv hx
  refine va_astq (r := (RX6, TX6, 1)) hexec hb hK hP hD hS q0 t0 qk 5 hq ht hqk rfl (zI_in (by omega) hn) hdg ?_
  rw [zI_cl (by omega), hz, Int.toNat_natCast, pl_set hD ha he hq]
  exact kk
end ADD
theorem ct_lt {p : Nat → Bool} {a b : Nat} (h : a < b) (hp : p a = true) : fb_ct p a < fb_ct p b := by
  have h1 := fb_ct_mono p (show a + 1 ≤ b from h)
  rw [fb_ct_succ, if_pos hp] at h1
  omega
theorem told_u {g : Nat → Int32} {z : Int} {r : Int32} {a b : Nat} (h : toldP g z r) (ha : a < 24) (hb : b ≤ 24) (hl : hasB g (a : Int) (b : Int) = true) (hc : ((fb_ct (linB g) (25 * a + b) : Nat) : Int) = z) : r = zI (100 * (a : Int) + (b : Int)) := by
  have hq : linB g (25 * a + b) = true := by rw [linB_at g (by omega)]; exact hl
  rcases h with ⟨q, h1, h2, h3, h4⟩ | ⟨h1, h2⟩
  · have he : q = 25 * a + b := by
      rcases Nat.lt_trichotomy q (25 * a + b) with h5 | h5 | h5
      · have := ct_lt (p := linB g) h5 h2
        omega
      · exact h5
      · have := ct_lt (p := linB g) h5 hq
        omega
    rw [h4, he, show (25 * a + b) / 25 = a by omega, show (25 * a + b) % 25 = b by omega]
  · exact absurd hc (h1 _ (by omega) hq)
theorem told_n {g : Nat → Int32} {z : Int} {r : Int32} (h : toldP g z r) (hn : ∀ q, q < 600 → linB g q = true → ((fb_ct (linB g) q : Nat) : Int) ≠ z) : r = zI (-1) := by
  rcases h with ⟨q, h1, h2, h3, h4⟩ | ⟨h1, h2⟩
  · exact absurd h3 (hn q h1 h2)
  · exact h2
/-- the state with one node more -/
def addS (S : SA) (w o1 o2 : Nat) (gp dp : Int) : SA := (sN S, sT S, sR S, sC S + 1, (fun j => if j = sC S then w else sW S j), (fun j => if j = sC S then o1 else sO S j), (fun j => if j = sC S then o2 else sP S j), (fun j => if j = sC S then gp else sG S j), (fun j => if j = sC S then dp else sD S j))
def addG (g : CG) (c : Nat) (o q1 r1 q2 r2 q3 r3 : Nat) (nd : Int32) : CG := (gA g, (fun r j => if j = c then (if r = 0 then o else if r = 1 then q1 else if r = 2 then r1 else if r = 3 then q2 else if r = 4 then r2 else if r = 5 then q3 else r3) else gN g r j), gM g, va_up (gE g) c (some o), (fun a => if a = r1 then 5 + 3 * c else if a = r2 then 6 + 3 * c else if a = r3 then 7 + 3 * c else gO g a), (fun j => if j = c then nd else gD g j), (fun r j => if j = c then (fun _ => 0) else gR g r j))
theorem addS_same (S : SA) (w o1 o2 : Nat) (gp dp : Int) {i : Nat} (hi : i < sC S) : sameN S (addS S w o1 o2 gp dp) i := fun j hj => by
  have hne : j ≠ sC S := by omega
  show (if j = sC S then w else sW S j) = _ ∧ (if j = sC S then o1 else sO S j) = _ ∧ (if j = sC S then o2 else sP S j) = _ ∧ (if j = sC S then gp else sG S j) = _ ∧ (if j = sC S then dp else sD S j) = _
  rw [if_neg hne, if_neg hne, if_neg hne, if_neg hne, if_neg hne]
  exact ⟨rfl, rfl, rfl, rfl, rfl⟩
theorem own3 {L : List Nat} {a r1 r2 r3 x y z w : Nat} (h : a ∈ L) (n1 : r1 ∉ L) (n2 : r2 ∉ L) (n3 : r3 ∉ L) : (if a = r1 then x else if a = r2 then y else if a = r3 then z else w) = w := by
  have h1 : a ≠ r1 := fun e => n1 (by rw [← e]; exact h)
  have h2 : a ≠ r2 := fun e => n2 (by rw [← e]; exact h)
  have h3 : a ≠ r3 := fun e => n3 (by rw [← e]; exact h)
  rw [if_neg h1, if_neg h2, if_neg h3]
theorem cRep.mk {k : Nat → ClassId} {L L2 : List Nat} {f F : Nat → va_E} {g : CG} {S : SA} (h : cRep k L f g S) (hok : aOK S) (hc : sC S < 30) {o q1 r1 q2 r2 q3 r3 w o1 o2 : Nat} {gp dp : Int} {nd : Int32} (hL : ∀ a, a ∈ L → a ∈ L2) (ho : o ∈ L2) (m1 : q1 ∈ L2) (m2 : r1 ∈ L2) (m3 : q2 ∈ L2) (m4 : r2 ∈ L2) (n1 : r1 ∉ L) (n2 : r2 ∉ L) (n3 : r3 ∉ L) (n12 : r2 ≠ r1)
    (m9 : w = 9 → q3 ∈ L2 ∧ r3 ∈ L2 ∧ r3 ≠ r1 ∧ r3 ≠ r2 ∧ F q3 = .inr (5, [.ref r3]) ∧ F r3 = .inl (k 0, 24, .inl (fun _ => 0)))
    (e1 : F q1 = .inr (5, [.ref r1])) (e2 : F r1 = .inl (k 0, 24, .inl (fun _ => 0))) (e3 : F q2 = .inr (5, [.ref r2])) (e4 : F r2 = .inl (k 0, 24, .inl (fun _ => 0)))
    (e0 : F o = .inr (exK w, .int (zI dp) :: .int nd :: .ref q1 :: .ref q2 :: nodeV (addG g (sC S) o q1 r1 q2 r2 q3 r3 nd) (addS S w o1 o2 gp dp) (sC S)))
    (hF : ∀ a, a ∈ L → F a = f a) (hnd : needOK (fun j => if j = sC S then nd else gD g j) (addS S w o1 o2 gp dp) (sC S)) :
    cRep k L2 (va_up (va_up F (gA g 4) (.inl (k 2, 30, .inr (.inr (.inr (.inr (va_up (gE g) (sC S) (some o)))))))) (gA g 0) (.inr (8, [.ref (gA g 1), .ref (gA g 4), .int (zI ((sC S : Int) + 1))]))) (addG g (sC S) o q1 r1 q2 r2 q3 r3 nd) (addS S w o1 o2 gp dp) := by
  obtain ⟨⟨a0, a1, a2, a3, a4⟩, aL, ao, aM, aE, aX⟩ := h
  have b0 : F (gA g 0) = .inr (8, [.ref (gA g 1), .ref (gA g 4), .int (zI (sC S : Int))]) := (hF _ (aL 0 (by decide))).trans a0
  have b4 : F (gA g 4) = .inl (k 2, 30, .inr (.inr (.inr (.inr (gE g))))) := (hF _ (aL 4 (by decide))).trans a4
  obtain ⟨G, hG⟩ : ∃ G, G = va_up (va_up F (gA g 4) (.inl (k 2, 30, .inr (.inr (.inr (.inr (va_up (gE g) (sC S) (some o)))))))) (gA g 0) (.inr (8, [.ref (gA g 1), .ref (gA g 4), .int (zI ((sC S : Int) + 1))])) := ⟨_, rfl⟩
  have hobj : ∀ a ci fs, F a = .inr (ci, fs) → ci ≠ 8 → G a = .inr (ci, fs) := fun a ci fs h9 hci => by
    rw [hG]; exact ((va_up_ne _ _ (ne_k h9 b0 (by simp [hci]))).trans (va_up_ne _ _ (ne_k h9 b4 (by simp)))).trans h9
  have hrow : ∀ a x, F a = .inl (k 0, 24, .inl x) → G a = .inl (k 0, 24, .inl x) := fun a x h9 => by
    rw [hG]; exact ((va_up_ne _ _ (ne_k h9 b0 (by simp))).trans (va_up_ne _ _ (ne_k h9 b4 (by simp)))).trans h9
  have hset : ∀ h9 r9 o9 G9, setAt k L f (gO g) h9 r9 G9 o9 → setAt k L2 G (addG g (sC S) o q1 r1 q2 r2 q3 r3 nd).2.2.2.2.1 h9 r9 G9 o9 := fun h9 r9 o9 G9 hs => by
    refine ⟨hL _ hs.1, hobj _ _ _ ((hF _ hs.1).trans hs.2.1) (by decide), hL _ hs.2.2.1, hrow _ _ ((hF _ hs.2.2.1).trans hs.2.2.2.1), ?_⟩
    show (if r9 = r1 then 5 + 3 * sC S else if r9 = r2 then 6 + 3 * sC S else if r9 = r3 then 7 + 3 * sC S else gO g r9) = o9
    exact (own3 hs.2.2.1 n1 n2 n3).trans hs.2.2.2.2
  rw [← hG]
  refine ⟨⟨?_, ?_, ?_, ?_, ?_⟩, fun j hj => hL _ (aL j hj), ?_, fun j hj => ⟨(aM j hj).1, hset _ _ _ _ (aM j hj).2⟩, fun i hi => ?_, fun i h1 h2 => ?_⟩
  · rw [hG]; exact (va_up_self _ _ _).trans (by show _ = (.inr (8, [.ref (gA g 1), .ref (gA g 4), .int (zI ((sC S + 1 : Nat) : Int))]) : va_E); rw [Int.natCast_add]; rfl)
  · exact hobj _ _ _ ((hF _ (aL 1 (by decide))).trans a1) (by decide)
  · exact hrow _ _ ((hF _ (aL 2 (by decide))).trans a2)
  · rw [hG]; exact ((va_up_ne _ _ (ne_k a3 a0 (by simp))).trans (va_up_ne _ _ (ne_k a3 a4 (by simp)))).trans ((hF _ (aL 3 (by decide))).trans a3)
  · rw [hG]; exact (va_up_ne _ _ (ne_k a4 a0 (by simp))).trans (va_up_self _ _ _)
  · show (if gA g 2 = r1 then 5 + 3 * sC S else if gA g 2 = r2 then 6 + 3 * sC S else if gA g 2 = r3 then 7 + 3 * sC S else gO g (gA g 2)) = 0
    exact (own3 (aL 2 (by decide)) n1 n2 n3).trans ao
  · have hi2 : i < sC S + 1 := hi
    by_cases ci : i = sC S
    · subst ci
      refine ⟨?_, ⟨?_, ?_⟩, ?_, ?_, fun h9 => ?_, hnd⟩
      · show va_up (gE g) (sC S) (some o) (sC S) = some (if sC S = sC S then _ else _)
        rw [va_up_self, if_pos rfl]; rfl
      · show (if sC S = sC S then o else gN g 0 (sC S)) ∈ L2
        rw [if_pos rfl]; exact ho
      · refine (hobj _ (exK w) (.int (zI dp) :: .int nd :: .ref q1 :: .ref q2 :: nodeV (addG g (sC S) o q1 r1 q2 r2 q3 r3 nd) (addS S w o1 o2 gp dp) (sC S)) ?_ (by have := exK_le w; omega)).trans ?_
        · show F (if sC S = sC S then o else gN g 0 (sC S)) = _
          rw [if_pos rfl]; exact e0
        · show _ = (.inr (exK (if sC S = sC S then w else sW S (sC S)), .int (zI (if sC S = sC S then dp else sD S (sC S))) :: .int (if sC S = sC S then nd else gD g (sC S)) :: .ref (if sC S = sC S then q1 else gN g 1 (sC S)) :: .ref (if sC S = sC S then q2 else gN g 3 (sC S)) :: _) : va_E)
          simp only [if_true]
      · show setAt k L2 G _ (if sC S = sC S then q1 else gN g 1 (sC S)) (if sC S = sC S then r1 else gN g 2 (sC S)) (if sC S = sC S then (fun _ => 0) else gR g 2 (sC S)) _
        simp only [if_true]
        exact ⟨m1, hobj _ _ _ e1 (by decide), m2, hrow _ _ e2, if_pos rfl⟩
      · show setAt k L2 G _ (if sC S = sC S then q2 else gN g 3 (sC S)) (if sC S = sC S then r2 else gN g 4 (sC S)) (if sC S = sC S then (fun _ => 0) else gR g 4 (sC S)) _
        simp only [if_true]
        exact ⟨m3, hobj _ _ _ e3 (by decide), m4, hrow _ _ e4, (if_neg n12).trans (if_pos rfl)⟩
      · have h9 : (if sC S = sC S then w else sW S (sC S)) = 9 := h9
        rw [if_pos rfl] at h9
        obtain ⟨x1, x2, x3, x4, x5, x6⟩ := m9 h9
        show setAt k L2 G _ (if sC S = sC S then q3 else gN g 5 (sC S)) (if sC S = sC S then r3 else gN g 6 (sC S)) (if sC S = sC S then (fun _ => 0) else gR g 6 (sC S)) _
        simp only [if_true]
        exact ⟨x1, hobj _ _ _ x5 (by decide), x2, hrow _ _ x6, (if_neg x3).trans ((if_neg x4).trans (if_pos rfl))⟩
    · have hi3 : i < sC S := by omega
      have hN : ∀ r j, j ≤ i → gN (addG g (sC S) o q1 r1 q2 r2 q3 r3 nd) r j = gN g r j := fun r j hj => if_neg (by omega)
      refine ⟨?_, ?_⟩
      · rw [hN 0 i (Nat.le_refl i)]
        exact (va_up_ne _ _ ci).trans (aE i hi3).1
      · refine (aE i hi3).2.tr hL (fun a ci fs h8 h9 hci => ?_) (fun a x h8 h9 _ => ?_) (addS_same S w o1 o2 gp dp hi3) (hok.2.2.2.2 i hi3) (fun _ => rfl) hN (fun a h9 => ?_) (if_neg ci) (fun r => if_neg ci)
        · exact (hobj _ _ _ ((hF _ h8).trans h9) (by omega)).trans h9.symm
        · exact (hrow _ _ ((hF _ h8).trans h9)).trans h9.symm
        · exact own3 h9 n1 n2 n3
  · have h1 : sC S + 1 ≤ i := h1
    exact (va_up_ne _ _ (by omega)).trans (aX i (by omega) h2)
