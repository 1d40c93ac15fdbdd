/-! the set of each node -/
def semF (S : SA) (T : Nat → Nat → Nat → Prop) (i : Nat) : Nat → Nat → Prop :=
  if sW S i = 12 then fun z t => z < 24 ∧ t < 32 ∧ bt (sR S (sO S i) z) t = true
  else if sW S i = 11 then fun z t => t = z + 1 ∧ (z : Int) < sN S ∧ sT S z = zI (sO S i : Int)
  else if sW S i = 10 then sJn (T (sO S i)) (T (sP S i)) (sG S i).toNat
  else if sW S i = 13 then sIi (T (sO S i))
  else if sW S i = 14 then sOo (T (sO S i))
  else if sW S i = 9 then sIi (sJn (T (sO S i)) (T (sP S i)) 24)
  else sPa (sW S i) (T (sO S i)) (T (sP S i))
def semT (S : SA) : Nat → Nat → Nat → Nat → Prop
  | 0 => fun _ _ _ => False
  | m + 1 => fun j => if j = m then semF S (semT S m) m else semT S m j
def sem (S : SA) (i : Nat) : Nat → Nat → Prop := semT S (i + 1) i
theorem semT_st (S : SA) {j : Nat} : ∀ {m : Nat}, j < m → semT S m j = sem S j
  | 0, h => absurd h (Nat.not_lt_zero j)
  | m + 1, h => by
    by_cases c : j = m
    · subst c; rfl
    · show (if j = m then semF S (semT S m) m else semT S m j) = _
      rw [if_neg c]
      exact semT_st S (by omega)
theorem semF_cong {S : SA} (hO : aOK S) {i : Nat} (hi : i < sC S) {T T2 : Nat → Nat → Nat → Prop} (h : ∀ j, j < i → T j = T2 j) : semF S T i = semF S T2 i := by
  unfold semF
  by_cases c1 : sW S i = 12
  · rw [if_pos c1, if_pos c1]
  · by_cases c2 : sW S i = 11
    · rw [if_neg c1, if_neg c1, if_pos c2, if_pos c2]
    · obtain ⟨a, b⟩ := (hO.2.2.2.2 i hi).2.2.2.2.1 ⟨c2, c1⟩
      rw [h _ a, h _ b]
theorem sem_eq {S : SA} (hO : aOK S) {i : Nat} (hi : i < sC S) : sem S i = semF S (sem S) i := by
  have h : sem S i = semF S (semT S i) i := if_pos rfl
  rw [h]
  exact semF_cong hO hi (fun j hj => semT_st S hj)
theorem sPa_in {w : Nat} {A B : Nat → Nat → Prop} {n : Nat} (hA : Rg n A) (hB : Rg n B) : Rg n (sPa w A B) := fun z t h => by
  unfold sPa at h
  by_cases c : w = 0
  · rw [if_pos c] at h
    rcases h with h | h
    · exact hA z t h
    · exact hB z t h
  · rw [if_neg c] at h
    exact hA z t h.1
theorem sJn_in {A B : Nat → Nat → Prop} {n gp : Nat} (hA : Rg n A) (hB : Rg n B) : Rg n (sJn A B gp) := fun z t h => by
  obtain ⟨y, x, a, b, c, d⟩ := h
  have := hA _ _ a
  have := hB _ _ b
  omega
theorem sem_in {S : SA} (hO : aOK S) : ∀ (m i : Nat), i < m → i < sC S → Rg (sN S).toNat (sem S i)
  | 0, i, h, _ => absurd h (Nat.not_lt_zero i)
  | m + 1, i, h, hi => by
    have ih := sem_in hO m
    rw [sem_eq hO hi]
    have hn := hO.1
    have hk := hO.2.2.2.2 i hi
    unfold semF
    by_cases c1 : sW S i = 12
    · rw [if_pos c1]
      rintro z t ⟨a, b, c⟩
      have := hO.2.2.1 (sO S i) (hk.2.2.2.1 c1) z a t b c
      omega
    · by_cases c2 : sW S i = 11
      · rw [if_neg c1, if_pos c2]
        rintro z t ⟨a, b, c⟩
        omega
      · obtain ⟨a, b⟩ := hk.2.2.2.2.1 ⟨c2, c1⟩
        have hA := ih (sO S i) (by omega) (by omega)
        have hB := ih (sP S i) (by omega) (by omega)
        rw [if_neg c1, if_neg c2]
        by_cases c3 : sW S i = 10
        · rw [if_pos c3]; exact sJn_in hA hB
        · rw [if_neg c3]
          by_cases c4 : sW S i = 13
          · rw [if_pos c4]; exact fun z t q => hA z t q.1
          · rw [if_neg c4]
            by_cases c5 : sW S i = 14
            · rw [if_pos c5]; exact fun z t q => hA z t q.1
            · rw [if_neg c5]
              by_cases c6 : sW S i = 9
              · rw [if_pos c6]; exact fun z t q => sJn_in hA hB z t q.1
              · rw [if_neg c6]; exact sPa_in hA hB
theorem semG {S : SA} (hO : aOK S) {i : Nat} (hi : i < sC S) : Rg (sN S).toNat (sem S i) := sem_in hO (i + 1) i (Nat.lt_succ_self i) hi
theorem sem24 {S : SA} (hO : aOK S) {i : Nat} (hi : i < sC S) : Rg 24 (sem S i) := fun z t h => by
  have := semG hO hi z t h
  have := hO.1
  omega
theorem Rp.id {g g0 : Nat → Int32} {A : Nat → Nat → Prop} (h : Rp g A) : Rp (fa_fill (fun j => rowAt g (j : Int)) g0 24) A := Rp.fill (fun z hz t ht => h.row hz ht) g0
theorem pa_s {w : Nat} (hw : w < 9) {g1 g2 : Nat → Int32} {A B : Nat → Nat → Prop} (h1 : Rp g1 A) (hA : Rg 24 A) (h2 : Rp g2 B) (hB : Rg 24 B) (g : Nat → Int32) : Rp (fa_fill (paF (w : Int) g1 g2) g 24) (sPa w A B) := by
  rcases (show w = 0 ∨ w = 1 ∨ w = 2 ∨ w = 3 ∨ w = 4 ∨ w = 5 ∨ w = 6 ∨ w = 7 ∨ w = 8 by omega) with rfl | rfl | rfl | rfl | rfl | rfl | rfl | rfl | rfl
  · exact sg_0 h1 h2 g
  · exact sg_1 h1 h2 g
  · exact sg_2 h1 h2 g
  · exact gh_3 h1 hA h2 hB g
  · exact gh_4 h1 hA h2 hB g
  · exact gl_5 h1 hA h2 hB g
  · exact gl_6 h1 hA h2 hB g
  · exact ga_7 h1 hA h2 hB g
  · rw [pf8 (by decide)]; exact gb_8 h1 h2 hB g
theorem gatF_sem {S : SA} (hO : aOK S) {i : Nat} (hi : i < sC S) {G : Nat → Nat → Int32} (h : comp S i → Rp (G (sO S i)) (sem S (sO S i)) ∧ Rp (G (sP S i)) (sem S (sP S i))) : Rp (gatF S G i) (sem S i) := by
  rw [sem_eq hO hi]
  have hk := hO.2.2.2.2 i hi
  have hw14 := hk.1
  have hn := hO.1
  unfold gatF semF
  by_cases c1 : sW S i = 12
  · rw [if_pos c1, if_pos c1]
    refine Rp.fill (fun z hz t ht => ?_) _
    rw [rowAt_in (by omega), Int.toNat_natCast]
    exact ⟨fun q => ⟨hz, ht, q⟩, fun q => q.2.2⟩
  · rw [if_neg c1, if_neg c1]
    by_cases c2 : sW S i = 11
    · rw [if_pos c2, if_pos c2]
      intro z hz t ht
      unfold ltF
      rw [if_pos hz]
      by_cases c : z < (sN S).toNat ∧ sT S z = zI (sO S i : Int)
      · rw [if_pos c, bt_pw (by omega), decide_eq_true_eq]
        exact ⟨fun q => ⟨q, by omega, c.2⟩, fun q => q.1⟩
      · rw [if_neg c, b_z0]
        exact ⟨fun q => absurd q (by decide), fun q => absurd ⟨by omega, q.2.2⟩ c⟩
    · rw [if_neg c2, if_neg c2]
      obtain ⟨a, b⟩ := hk.2.2.2.2.1 ⟨c2, c1⟩
      obtain ⟨h1, h2⟩ := h ⟨c2, c1⟩
      have hA := sem24 hO (i := sO S i) (by omega)
      have hB := sem24 hO (i := sP S i) (by omega)
      by_cases c3 : sW S i = 10
      · rw [if_pos c3, if_pos c3]
        exact jn_s h1 hA h2 hB (hk.2.2.2.2.2.1 c3).1 _
      · rw [if_neg c3, if_neg c3]
        by_cases c4 : sW S i = 13
        · rw [if_pos (Or.inl c4), if_pos c4, if_neg (by rw [decide_eq_true_eq]; omega)]
          exact ki_s h1.id hA _
        · rw [if_neg c4]
          by_cases c5 : sW S i = 14
          · rw [if_pos (Or.inr c5), if_pos c5, if_pos (by rw [decide_eq_true_eq]; omega)]
            exact ko_s h1.id hA _
          · rw [if_neg (by omega), if_neg c5]
            by_cases c6 : sW S i = 9
            · rw [if_pos c6, if_pos c6]
              exact ki_s (jn_s h1 hA h2 hB (by decide) _) (sJn_in hA hB) _
            · rw [if_neg c6, if_neg c6]
              exact pa_s (by omega) h1 hA h2 hB _
theorem gat_sem {S : SA} (hO : aOK S) {nd : Int32} {G : Nat → Nat → Int32} (hnd : ∀ j, bt nd j = true → comp S j → bt nd (sO S j) = true ∧ bt nd (sP S j) = true) : ∀ m j, j < m → j < sC S → bt nd j = true → Rp (gatN S nd G m j) (sem S j)
  | 0, j, h, _, _ => absurd h (Nat.not_lt_zero j)
  | m + 1, j, h, hj, hb => by
    have ih := gat_sem hO hnd (G := G) m
    by_cases c : m < sC S ∧ bt nd m = true
    · rw [gatN_yes c.1 c.2]
      show Rp (if j = m then gatF S (gatN S nd G m) m else gatN S nd G m j) _
      by_cases e : j = m
      · subst e
        rw [if_pos rfl]
        refine gatF_sem hO hj (fun hc => ?_)
        obtain ⟨a, b⟩ := (hO.2.2.2.2 j hj).2.2.2.2.1 hc
        obtain ⟨p, q⟩ := hnd j hb hc
        exact ⟨ih _ a (by omega) p, ih _ b (by omega) q⟩
      · rw [if_neg e]
        exact ih j (by omega) hj hb
    · rw [gatN_no c]
      by_cases e : j = m
      · subst e; exact absurd ⟨hj, hb⟩ c
      · exact ih j (by omega) hj hb
