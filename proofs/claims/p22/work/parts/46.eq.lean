/-! p22: two states that show the same; a call answers the same on both, and leaves such a pair -/
def eqS (S T : SA) : Prop := sN S = sN T ∧ (∀ j : Nat, (j : Int) < sN S → sT S j = sT T j) ∧ (∀ q, q < 4 → ∀ j, j < 24 → sR S q j = sR T q j) ∧ sC S = sC T ∧ ∀ i, i < sC S → sW S i = sW T i ∧ sO S i = sO T i ∧ sP S i = sP T i ∧ sG S i = sG T i ∧ sD S i = sD T i
theorem eqS.refl (S : SA) : eqS S S := ⟨rfl, fun _ _ => rfl, fun _ _ _ _ => rfl, rfl, fun _ _ => ⟨rfl, rfl, rfl, rfl, rfl⟩⟩
abbrev FN (kk kk2 : Int) (v v2 : Int32) (S2 T2 : SA) : Prop := kk = kk2 ∧ (kk = 0 → v = v2) ∧ eqS S2 T2
section EQ
variable {S T S2 T2 : SA} {kk kk2 : Int} {v v2 : Int32} {g g2 : Nat → Int32}
theorem op2_cong (h : ∀ j, j < 24 → g j = g2 j) (p : Int) (i : Nat) {j : Nat} (hj : j < 24) : op2 g p i j = op2 g2 p i j := by
  unfold op2
  rw [h j hj, h (j - 1) (by omega)]
theorem clF_cong (h : ∀ j, j < 24 → g j = g2 j) (p : Int) (j : Nat) : clF g p j = clF g2 p j := by
  unfold clF
  rw [row_cong h, row_cong h]
theorem setR_cong (h : ∀ j, j < 24 → g j = g2 j) (z : Int) (x : Int32) {j : Nat} (hj : j < 24) : setR g z x j = setR g2 z x j := by
  by_cases c : 0 ≤ z ∧ z < 24
  · rw [setR_in c, setR_in c]
    by_cases d : j = z.toNat
    · rw [d, pk_us, pk_us]
    · rw [pk_un d, pk_un d, h j hj]
  · rw [setR_out c, setR_out c, h j hj]
theorem addR_cong (h : ∀ j, j < 24 → g j = g2 j) (z w : Int) {j : Nat} (hj : j < 24) : addR g z w j = addR g2 z w j := by
  unfold addR
  by_cases c : 0 ≤ z ∧ z < 24 ∧ z < w ∧ w ≤ 24
  · rw [if_pos c, if_pos c]
    by_cases d : j = z.toNat
    · rw [d, pk_us, pk_us, h _ (by omega)]
    · rw [pk_un d, pk_un d, h j hj]
  · rw [if_neg c, if_neg c, h j hj]
theorem dropR_cong (h : ∀ j, j < 24 → g j = g2 j) (z w : Int) {j : Nat} (hj : j < 24) : dropR g z w j = dropR g2 z w j := by
  unfold dropR
  rw [has_cong h z w, row_cong h]
  by_cases c : hasB g2 z w = true
  · rw [if_pos c, if_pos c]; exact setR_cong h _ _ hj
  · rw [if_neg c, if_neg c, h j hj]
theorem eqS.kind (h : eqS S T) {q : Nat} (hg : ∀ j, j < 24 → g j = g2 j) : eqS (kindS S q g) (kindS T q g2) := by
  refine ⟨h.1, h.2.1, fun q9 hq j hj => ?_, h.2.2.2⟩
  show (if q9 = q then g else sR S q9) j = (if q9 = q then g2 else sR T q9) j
  by_cases c : q9 = q
  · rw [if_pos c, if_pos c]; exact hg j hj
  · rw [if_neg c, if_neg c]; exact h.2.2.1 q9 hq j hj
theorem eqS.adds (h : eqS S T) {w o1 o2 : Nat} {gp d1 d2 : Int} (hd : d1 = d2) : eqS (addS S w o1 o2 gp d1) (addS T w o1 o2 gp d2) := by
  subst hd
  have e := h.2.2.2.1
  refine ⟨h.1, h.2.1, h.2.2.1, by show sC S + 1 = sC T + 1; rw [e], fun i hi => ?_⟩
  have hi : i < sC S + 1 := hi
  show (if i = sC S then w else sW S i) = (if i = sC T then w else sW T i) ∧ (if i = sC S then o1 else sO S i) = (if i = sC T then o1 else sO T i) ∧ (if i = sC S then o2 else sP S i) = (if i = sC T then o2 else sP T i) ∧ (if i = sC S then gp else sG S i) = (if i = sC T then gp else sG T i) ∧ (if i = sC S then d1 else sD S i) = (if i = sC T then d1 else sD T i)
  rw [← e]
  by_cases c : i = sC S
  · simp only [if_pos c, and_self]
  · simp only [if_neg c]; exact h.2.2.2.2 i (by omega)
theorem eqS_n (h : eqS S T) (z : Int) : isN S z ↔ isN T z := by
  have e := h.2.2.2.1
  unfold isN
  rw [e]
theorem eqS_m (h : eqS S T) {z y : Int} (hz : isN S z) (hy : isN S y) : mxD S z y = mxD T z y := by
  unfold isN at hz hy
  unfold mxD
  rw [(h.2.2.2.2 z.toNat (by omega)).2.2.2.2, (h.2.2.2.2 y.toNat (by omega)).2.2.2.2]
theorem fn_insert (h : eqS S T) {z y : Int} (a : SpInsert S z y kk v S2) (b : SpInsert T z y kk2 v2 T2) : FN kk kk2 v v2 S2 T2 := by
  have e := h.1
  rcases a with ⟨a1, rfl, rfl⟩ | ⟨a1, a2, rfl, rfl⟩ | ⟨a1, a2, a3, rfl, rfl⟩ | ⟨a1, a2, a3, rfl, rfl, G, hG, rfl⟩ <;> rcases b with ⟨b1, rfl, rfl⟩ | ⟨b1, b2, rfl, rfl⟩ | ⟨b1, b2, b3, rfl, rfl⟩ | ⟨b1, b2, b3, rfl, rfl, G2, hG2, rfl⟩
  all_goals first | exact ⟨rfl, fun q => absurd q (by decide), h⟩ | (exfalso; omega) | skip
  refine ⟨rfl, fun _ => by rw [e], ?_, fun j hj => ?_, fun q hq j hj => ?_, h.2.2.2⟩
  · show sN S + 1 = sN T + 1
    rw [e]
  · have hj : (j : Int) < sN S + 1 := hj
    show upd (shU (sT S) z (sN S) z) z.toNat (zI y) j = upd (shU (sT T) z (sN T) z) z.toNat (zI y) j
    by_cases c : j = z.toNat
    · rw [c, pk_us, pk_us]
    · rw [pk_un c, pk_un c]
      unfold shU
      rw [← e]
      by_cases d : z < (j : Int) ∧ (j : Int) ≤ sN S
      · rw [if_pos d, if_pos d]; exact h.2.1 _ (by omega)
      · rw [if_neg d, if_neg d]; exact h.2.1 _ (by omega)
  · show G q j = G2 q j
    rw [hG q hq j hj, hG2 q hq j hj]
    exact op2_cong (h.2.2.1 q hq) _ _ hj
theorem fn_remove (h : eqS S T) {z : Int} (a : SpRemove S z kk v S2) (b : SpRemove T z kk2 v2 T2) : FN kk kk2 v v2 S2 T2 := by
  have e := h.1
  rcases a with ⟨a1, rfl, rfl⟩ | ⟨a1, rfl, rfl, rfl⟩ <;> rcases b with ⟨b1, rfl, rfl⟩ | ⟨b1, rfl, rfl, rfl⟩
  all_goals first | exact ⟨rfl, fun q => absurd q (by decide), h⟩ | (exfalso; omega) | skip
  refine ⟨rfl, fun _ => h.2.1 _ (by omega), ?_, fun j hj => ?_, fun q hq j hj => ?_, h.2.2.2⟩
  · show sN S - 1 = sN T - 1
    rw [e]
  · have hj : (j : Int) < sN S - 1 := hj
    show shD (sT S) z (sN S - 1) j = shD (sT T) z (sN T - 1) j
    unfold shD
    rw [← e]
    by_cases d : z ≤ (j : Int) ∧ (j : Int) < sN S - 1
    · rw [if_pos d, if_pos d]; exact h.2.1 _ (by omega)
    · rw [if_neg d, if_neg d]; exact h.2.1 _ (by omega)
  · show fa_fill (clF (sR S q) z) (sR S q) 24 j = fa_fill (clF (sR T q) z) (sR T q) 24 j
    rw [fa_fill_in hj, fa_fill_in hj]
    exact clF_cong (h.2.2.1 q hq) _ _
theorem fn_mark (h : eqS S T) {z y x : Int} (a : SpMark S z y x kk v S2) (b : SpMark T z y x kk2 v2 T2) : FN kk kk2 v v2 S2 T2 := by
  have e := h.1
  rcases a with ⟨a1, rfl, rfl⟩ | ⟨a1, a2, rfl, rfl⟩ | ⟨a1, a2, rfl, rfl, rfl⟩ <;> rcases b with ⟨b1, rfl, rfl⟩ | ⟨b1, b2, rfl, rfl⟩ | ⟨b1, b2, rfl, rfl, rfl⟩
  all_goals first | exact ⟨rfl, fun q => absurd q (by decide), h⟩ | (exfalso; omega) | skip
  have hr := h.2.2.1 z.toNat (by omega)
  exact ⟨rfl, fun _ => by rw [has_cong hr], h.kind fun j hj => addR_cong hr _ _ hj⟩
theorem fn_unmark (h : eqS S T) (hS : aOK S) (hT : aOK T) {z y : Int} (a : SpUnmark S z y kk v S2) (b : SpUnmark T z y kk2 v2 T2) : FN kk kk2 v v2 S2 T2 := by
  by_cases c : 0 ≤ z ∧ z < 4
  · have hr := h.2.2.1 z.toNat (by omega)
    have hsz := size_cong hr
    have hlin := lin_cong hr
    rcases a with ⟨a1, rfl, rfl⟩ | ⟨a1, a2, rfl, rfl⟩ | ⟨a1, rfl, p, q, hp, hq, ha, hy, rfl, rfl⟩
    · exact absurd c a1
    · rcases b with ⟨b1, rfl, rfl⟩ | ⟨b1, b2, rfl, rfl⟩ | ⟨b1, rfl, p2, q2, hp2, hq2, ha2, hy2, rfl, rfl⟩
      · exact absurd c b1
      · exact ⟨rfl, fun q => absurd q (by decide), h⟩
      · have h9 := lin_lt (mk_p T z.toNat) (mk_24 hT (by omega)) (q := 25 * p2 + q2) (by omega) (by rw [linB_at _ (by omega)]; exact ha2)
        exfalso; omega
    · have h8 := lin_lt (mk_p S z.toNat) (mk_24 hS (by omega)) (q := 25 * p + q) (by omega) (by rw [linB_at _ (by omega)]; exact ha)
      rcases b with ⟨b1, rfl, rfl⟩ | ⟨b1, b2, rfl, rfl⟩ | ⟨b1, rfl, p2, q2, hp2, hq2, ha2, hy2, rfl, rfl⟩
      · exact absurd c b1
      · exfalso; omega
      · rw [← hlin] at hy2
        have h7 := fb_ct_kth_one (p := linB (sR S z.toNat)) (i := 25 * p + q) (j := 25 * p2 + q2) (by rw [linB_at _ (by omega)]; exact ha) (by rw [hlin, linB_at _ (by omega)]; exact ha2) (by omega)
        obtain rfl : p = p2 := by omega
        obtain rfl : q = q2 := by omega
        have e9 := size_cong (r1 := dropR (sR S z.toNat) (p : Int) (q : Int)) (r2 := dropR (sR T z.toNat) (p : Int) (q : Int)) (fun j hj => dropR_cong hr _ _ hj)
        exact ⟨rfl, fun _ => by rw [e9], h.kind fun j hj => dropR_cong hr _ _ hj⟩
  · rcases a with ⟨a1, rfl, rfl⟩ | ⟨a1, -⟩ | ⟨a1, -⟩
    · rcases b with ⟨b1, rfl, rfl⟩ | ⟨b1, -⟩ | ⟨b1, -⟩
      · exact ⟨rfl, fun q => absurd q (by decide), h⟩
      · exact absurd b1 c
      · exact absurd b1 c
    · exact absurd a1 c
    · exact absurd a1 c
theorem fn_letter (h : eqS S T) {z : Int} (a : SpLetter S z kk v S2) (b : SpLetter T z kk2 v2 T2) : FN kk kk2 v v2 S2 T2 := by
  have e := h.2.2.2.1
  rcases a with ⟨a1, rfl, rfl⟩ | ⟨a1, a2, rfl, rfl⟩ | ⟨a1, a2, rfl, rfl, rfl⟩ <;> rcases b with ⟨b1, rfl, rfl⟩ | ⟨b1, b2, rfl, rfl⟩ | ⟨b1, b2, rfl, rfl, rfl⟩
  all_goals first | exact ⟨rfl, fun q => absurd q (by decide), h⟩ | (exfalso; omega) | exact ⟨rfl, fun _ => by rw [e], h.adds rfl⟩
theorem fn_marked (h : eqS S T) {z : Int} (a : SpMarked S z kk v S2) (b : SpMarked T z kk2 v2 T2) : FN kk kk2 v v2 S2 T2 := by
  have e := h.2.2.2.1
  rcases a with ⟨a1, rfl, rfl⟩ | ⟨a1, a2, rfl, rfl⟩ | ⟨a1, a2, rfl, rfl, rfl⟩ <;> rcases b with ⟨b1, rfl, rfl⟩ | ⟨b1, b2, rfl, rfl⟩ | ⟨b1, b2, rfl, rfl, rfl⟩
  all_goals first | exact ⟨rfl, fun q => absurd q (by decide), h⟩ | (exfalso; omega) | exact ⟨rfl, fun _ => by rw [e], h.adds rfl⟩
theorem fn_pair (h : eqS S T) {x z y : Int} (a : SpPair S x z y kk v S2) (b : SpPair T x z y kk2 v2 T2) : FN kk kk2 v v2 S2 T2 := by
  have e := h.2.2.2.1
  by_cases c : isN S z ∧ isN S y
  · have c2 : isN T z ∧ isN T y := ⟨(eqS_n h z).mp c.1, (eqS_n h y).mp c.2⟩
    have d := eqS_m h c.1 c.2
    rcases a with ⟨a1, rfl, rfl⟩ | ⟨a1, a2, rfl, rfl⟩ | ⟨a1, a2, a3, rfl, rfl⟩ | ⟨a1, a2, a3, a4, rfl, rfl, rfl⟩
    · exact absurd c a1
    all_goals (rcases b with ⟨b1, rfl, rfl⟩ | ⟨b1, b2, rfl, rfl⟩ | ⟨b1, b2, b3, rfl, rfl⟩ | ⟨b1, b2, b3, b4, rfl, rfl, rfl⟩)
    all_goals first | exact absurd c2 b1 | exact ⟨rfl, fun q => absurd q (by decide), h⟩ | (exfalso; omega) | exact ⟨rfl, fun _ => by rw [e], h.adds d⟩
  · have c2 : ¬ (isN T z ∧ isN T y) := fun q => c ⟨(eqS_n h z).mpr q.1, (eqS_n h y).mpr q.2⟩
    rcases a with ⟨a1, rfl, rfl⟩ | ⟨a1, -⟩ | ⟨a1, -⟩ | ⟨a1, -⟩
    · rcases b with ⟨b1, rfl, rfl⟩ | ⟨b1, -⟩ | ⟨b1, -⟩ | ⟨b1, -⟩
      · exact ⟨rfl, fun q => absurd q (by decide), h⟩
      all_goals exact absurd b1 c2
    all_goals exact absurd a1 c
theorem fn_near (h : eqS S T) {z y x : Int} (a : SpNear S z y x kk v S2) (b : SpNear T z y x kk2 v2 T2) : FN kk kk2 v v2 S2 T2 := by
  have e := h.2.2.2.1
  by_cases c : isN S z ∧ isN S y
  · have c2 : isN T z ∧ isN T y := ⟨(eqS_n h z).mp c.1, (eqS_n h y).mp c.2⟩
    have d := eqS_m h c.1 c.2
    rcases a with ⟨a1, rfl, rfl⟩ | ⟨a1, a2, rfl, rfl⟩ | ⟨a1, a2, a3, rfl, rfl⟩ | ⟨a1, a2, a3, a4, rfl, rfl, rfl⟩
    · exact absurd c a1
    all_goals (rcases b with ⟨b1, rfl, rfl⟩ | ⟨b1, b2, rfl, rfl⟩ | ⟨b1, b2, b3, rfl, rfl⟩ | ⟨b1, b2, b3, b4, rfl, rfl, rfl⟩)
    all_goals first | exact absurd c2 b1 | exact ⟨rfl, fun q => absurd q (by decide), h⟩ | (exfalso; omega) | exact ⟨rfl, fun _ => by rw [e], h.adds d⟩
  · have c2 : ¬ (isN T z ∧ isN T y) := fun q => c ⟨(eqS_n h z).mpr q.1, (eqS_n h y).mpr q.2⟩
    rcases a with ⟨a1, rfl, rfl⟩ | ⟨a1, -⟩ | ⟨a1, -⟩ | ⟨a1, -⟩
    · rcases b with ⟨b1, rfl, rfl⟩ | ⟨b1, -⟩ | ⟨b1, -⟩ | ⟨b1, -⟩
      · exact ⟨rfl, fun q => absurd q (by decide), h⟩
      all_goals exact absurd b1 c2
    all_goals exact absurd a1 c
theorem fn_only (h : eqS S T) {z : Int} {b9 : Bool} (a : SpOnly S z b9 kk v S2) (b : SpOnly T z b9 kk2 v2 T2) : FN kk kk2 v v2 S2 T2 := by
  have e := h.2.2.2.1
  by_cases c : isN S z
  · have c2 : isN T z := (eqS_n h z).mp c
    have d := eqS_m h c c
    rcases a with ⟨a1, rfl, rfl⟩ | ⟨a1, a2, rfl, rfl⟩ | ⟨a1, a2, a3, rfl, rfl, rfl⟩
    · exact absurd c a1
    all_goals (rcases b with ⟨b1, rfl, rfl⟩ | ⟨b1, b2, rfl, rfl⟩ | ⟨b1, b2, b3, rfl, rfl, rfl⟩)
    all_goals first | exact absurd c2 b1 | exact ⟨rfl, fun q => absurd q (by decide), h⟩ | (exfalso; omega) | exact ⟨rfl, fun _ => by rw [e], h.adds d⟩
  · have c2 : ¬ isN T z := fun q => c ((eqS_n h z).mpr q)
    rcases a with ⟨a1, rfl, rfl⟩ | ⟨a1, -⟩ | ⟨a1, -⟩
    · rcases b with ⟨b1, rfl, rfl⟩ | ⟨b1, -⟩ | ⟨b1, -⟩
      · exact ⟨rfl, fun q => absurd q (by decide), h⟩
      all_goals exact absurd b1 c2
    all_goals exact absurd a1 c
/-- what a node tells is the same on both -/
theorem sem_cong (h : eqS S T) (hS : aOK S) (hT : aOK T) : ∀ m i : Nat, i < m → i < sC S → sem S i = sem T i
  | 0, i, h1, _ => absurd h1 (Nat.not_lt_zero i)
  | m + 1, i, h1, hi => by
    have hi2 : i < sC T := by rw [← h.2.2.2.1]; exact hi
    obtain ⟨eW, eO, eP, eG, eD⟩ := h.2.2.2.2 i hi
    have hk := hS.2.2.2.2 i hi
    rw [sem_eq hS hi, sem_eq hT hi2]
    unfold semF
    rw [← eW, ← eO, ← eP, ← eG]
    by_cases c12 : sW S i = 12
    · rw [if_pos c12, if_pos c12]
      funext z t
      refine propext ⟨fun q => ⟨q.1, q.2.1, ?_⟩, fun q => ⟨q.1, q.2.1, ?_⟩⟩
      · rw [← h.2.2.1 _ (hk.2.2.2.1 c12) z q.1]; exact q.2.2
      · rw [h.2.2.1 _ (hk.2.2.2.1 c12) z q.1]; exact q.2.2
    · rw [if_neg c12, if_neg c12]
      by_cases c11 : sW S i = 11
      · rw [if_pos c11, if_pos c11]
        funext z t
        refine propext ⟨fun q => ⟨q.1, ?_, ?_⟩, fun q => ⟨q.1, ?_, ?_⟩⟩
        · rw [← h.1]; exact q.2.1
        · rw [← h.2.1 z q.2.1]; exact q.2.2
        · rw [h.1]; exact q.2.1
        · rw [h.2.1 z (by rw [h.1]; exact q.2.1)]; exact q.2.2
      · obtain ⟨k1, k2⟩ := hk.2.2.2.2.1 ⟨c11, c12⟩
        rw [sem_cong h hS hT m (sO S i) (by omega) (by omega), sem_cong h hS hT m (sP S i) (by omega) (by omega)]
        rw [if_neg c11, if_neg c11]
end EQ
