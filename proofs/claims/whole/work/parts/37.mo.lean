/-! moving of marks -/
def mvF (bg dy : Int) (x : Nat) : Int := if bg ≤ (x : Int) then (x : Int) + dy else (x : Int)
theorem mvF_t {bg dy : Int} {x : Nat} (h : bg ≤ (x : Int)) : mvF bg dy x = (x : Int) + dy := if_pos h
theorem mvF_f {bg dy : Int} {x : Nat} (h : ¬ bg ≤ (x : Int)) : mvF bg dy x = (x : Int) := if_neg h
def sMv (P : Nat → Nat → Prop) (bg en dy : Int) (z t : Nat) : Prop := ∃ x y, P x y ∧ mvF bg dy x = (z : Int) ∧ mvF en dy y = (t : Int) ∧ z < t
def rqM (V : Nat → Int32) (k : Nat) (P : Nat → Nat → Prop) (bg en dy : Int) : Prop := ∀ z, z < 25 → ∀ t, t < 32 → (bt (V z) t = true ↔ ∃ x y, P x y ∧ 25 * x + y < k ∧ mvF bg dy x = (z : Int) ∧ mvF en dy y = (t : Int) ∧ z < t)
section RQM
variable {V : Nat → Int32} {k : Nat} {P : Nat → Nat → Prop} {bg en dy : Int}
theorem rqM_0 (h : ∀ z, z < 25 → V z = zI 0) (P : Nat → Nat → Prop) (bg en dy : Int) : rqM V 0 P bg en dy := fun z hz t ht => by
  rw [h z hz, b_z0]
  exact ⟨fun h => absurd h (by decide), fun ⟨x, y, _, h2, _⟩ => absurd h2 (Nat.not_lt_zero _)⟩
theorem rqM_n (h : rqM V k P bg en dy) (hP : Rg 24 P) (hn : ¬ P (k / 25) (k % 25)) : rqM V (k + 1) P bg en dy := fun z hz t ht => by
  rw [h z hz t ht]
  constructor
  · rintro ⟨x, y, h1, h2, h3⟩; exact ⟨x, y, h1, by omega, h3⟩
  · rintro ⟨x, y, h1, h2, h3⟩
    have := hP x y h1
    refine ⟨x, y, h1, ?_, h3⟩
    by_cases c : 25 * x + y = k
    · refine absurd ?_ hn
      rw [show k / 25 = x by omega, show k % 25 = y by omega]
      exact h1
    · omega
theorem rqM_y {f : Nat} {lz : Int} {v : Int32} (h : rqM V k P bg en dy) (hP : Rg 24 P) (hk : k < 625) (hp : P (k / 25) (k % 25)) (hf : mvF bg dy (k / 25) = (f : Int)) (hl : mvF en dy (k % 25) = lz) (hv : ∀ t, t < 32 → (bt v t = true ↔ ((t : Int) = lz ∧ (f : Int) < lz))) : rqM (upd V f (V f ||| v)) (k + 1) P bg en dy := fun z hz t ht => by
  by_cases c : z = f
  · subst c
    rw [pk_us, b_or, Bool.or_eq_true, h z hz t ht, hv t ht]
    constructor
    · rintro (⟨x, y, h1, h2, h3⟩ | ⟨h1, h2⟩)
      · exact ⟨x, y, h1, by omega, h3⟩
      · exact ⟨k / 25, k % 25, hp, by omega, hf, by omega, by omega⟩
    · rintro ⟨x, y, h1, h2, h3, h4, h5⟩
      have := hP x y h1
      by_cases d : 25 * x + y = k
      · obtain rfl : x = k / 25 := by omega
        obtain rfl : y = k % 25 := by omega
        exact Or.inr ⟨by omega, by omega⟩
      · exact Or.inl ⟨x, y, h1, by omega, h3, h4, h5⟩
  · rw [pk_un c, h z hz t ht]
    constructor
    · rintro ⟨x, y, h1, h2, h3⟩; exact ⟨x, y, h1, by omega, h3⟩
    · rintro ⟨x, y, h1, h2, h3, h4, h5⟩
      have := hP x y h1
      refine ⟨x, y, h1, ?_, h3, h4, h5⟩
      by_cases d : 25 * x + y = k
      · obtain rfl : x = k / 25 := by omega
        exact absurd (by omega) c
      · omega
theorem mv_v1 {f : Nat} {lz : Int} (h : (f : Int) < lz) (h2 : lz < 32) : ∀ t, t < 32 → (bt (pw lz.toNat) t = true ↔ ((t : Int) = lz ∧ (f : Int) < lz)) := fun t ht => by
  rw [bt_pw (by omega), decide_eq_true_eq]
  omega
theorem mv_v0 {f : Nat} {lz : Int} (h : ¬ (f : Int) < lz) : ∀ t, t < 32 → (bt (zI 0) t = true ↔ ((t : Int) = lz ∧ (f : Int) < lz)) := fun t ht => by
  rw [b_z0]
  exact ⟨fun q => absurd q (by decide), fun q => absurd q.2 h⟩
theorem rqM_e (h : rqM V 625 P bg en dy) (hP : Rg 24 P) {z t : Nat} (hz : z < 25) (ht : t < 32) : bt (V z) t = true ↔ sMv P bg en dy z t := by
  rw [h z hz t ht]
  constructor
  · rintro ⟨x, y, h1, _, h3⟩; exact ⟨x, y, h1, h3⟩
  · rintro ⟨x, y, h1, h3⟩
    have := hP x y h1
    exact ⟨x, y, h1, by omega, h3⟩
theorem ite_1 {b : Bool} (h : (if b = true then (1 : Int) else 0) = 1) : b = true := by
  cases b with
  | true => rfl
  | false => rw [if_neg (by decide)] at h; omega
theorem ite_0 {b : Bool} (h : ¬ (if b = true then (1 : Int) else 0) = 1) : b = false := by
  cases b with
  | false => rfl
  | true => rw [if_pos rfl] at h; omega
end RQM

set_option maxHeartbeats 4000000 in
set_option maxRecDepth 100000 in
theorem kX10_move (l : Launch) (D : va_G) (k : Nat → ClassId) (L : List Nat) (f : Nat → va_E) (a : Nat → Nat) (tw n cn : Int) (A1 A2 A3 A4 A5 A6 A7 A8 A9 A10 : Nat → Int32) (hM : mRep k L f a tw n cn A1 A2 A3 A4 A5 A6 A7 A8 A9 A10) (hMC : 0 ≤ cn ∧ cn ≤ 30) (hMT : 0 ≤ tw ∧ tw ≤ 3) (hMN : 0 ≤ n ∧ n ≤ 24) (q : Nat) (hq4 : q < 4) (bg en dy : Int) (hbg : 0 ≤ bg ∧ bg ≤ 30) (hen : 0 ≤ en ∧ en ≤ 30) (hdy : -1 ≤ dy ∧ dy ≤ 1) (P9 : Nat → Nat → Prop) (hQ9 : Rq A2 q P9) (hP9 : Rg 24 P9) (hmv : ∀ x y, P9 x y → (0 ≤ mvF bg dy x ∧ mvF bg dy x ≤ 24) ∧ (0 ≤ mvF en dy y ∧ mvF en dy y ≤ 24)) (n0 sz : Nat) : Met l yX10_move wsX10_move ({ frames := 0, cells := 0, slots := 0, locals := 0 } : Room) (va_Pc [.ref (a 0), .int (zI ((q : Int))), .int (zI (bg)), .int (zI (en)), .int (zI (dy))] (pPre D (tyL k) n0 (va_pl L f) sz)) (va_Qv (fun u => ∃ (F : Nat → va_E) (R2 V : Nat → Int32), u = va_pl L F ∧ mRep k L F a tw n cn A1 R2 A3 A4 A5 A6 A7 A8 A9 V ∧ rqI A2 R2 q 25 (sMv P9 bg en dy)) (pB D (va_pl L f) sz) (va_A (va_pl L f) sz)) 0 0 (va_A (va_pl L f) sz) := by
  refine Met.ofW (cc := cX10_move) (maxL := 10) (ret := none) (by decide) rfl ?_
  intro p e s m args below meth c s₁ B hml hv
  obtain ⟨rfl, hsz, hn9, hP, hC, hD0⟩ := hv
  have hK := hC.1
  have hNW := hC.2.1
  have hx := B.exec
  have hb := B.bytes
  have hrt := B.returns
  have hts := atoms_spec (ws := wsX10_move) B.pre
  have hown : s.vm.findClass RX10 = some m.cls := findClass_of_methodNamed B.named
  have hlocks := B.notSynchronized
  subst hsz
  obtain ⟨A, hAd⟩ : ∃ A, A = va_A (va_pl L f) s.heap.size := ⟨_, rfl⟩
  have hD := hD0.self (sz := s.heap.size)
  rw [← hAd] at hD
  have hA : ∀ q : Nat, s.heap.size ≤ q → A q := fun q h => by rw [hAd]; exact Or.inr h
  have hAn : ∀ q : Nat, A q → n0 ≤ q := fun q h => by
    rw [hAd] at h
    rcases h with ⟨k9, e9, hk9⟩ | h
    · exact hD0.2 k9 _ hk9
    · exact Nat.le_trans hn9 h
  have hS : va_S A s.heap s.heap [] := va_S.rf
  have hi_X10 : ∀ w ∈ u_ws RX10 TX10 13, w ∈ wsX10_move := by decide +kernel
  have hw_0 := hts (.fieldLink RX10 13 "RegionryModel" "marks" "[I") (by decide +kernel)
  have hw_1 := hts (.fieldLink RX10 38 "RegionryModel" "moved" "[I") (by decide +kernel)
  have hl := lv_entry ([.ref (a 0), .int (zI ((q : Int))), .int (zI (bg)), .int (zI (en)), .int (zI (dy))]) (n := 10) (Nat.le_of_ble_eq_true rfl)
  rw [lg_entry_eq]
  generalize (lg_sl ([.ref (a 0), .int (zI ((q : Int))), .int (zI (bg)), .int (zI (en)), .int (zI (dy))]) ++ List.replicate (10 - (lg_sl ([.ref (a 0), .int (zI ((q : Int))), .int (zI (bg)), .int (zI (en)), .int (zI (dy))])).length) Slot.unset).toArray = ls at hl ⊢
  have hl : lv_has ls 10 [(0, .ref (a 0)), (1, .int (zI ((q : Int)))), (2, .int (zI (bg))), (3, .int (zI (en))), (4, .int (zI (dy)))] := hl
  obtain ⟨Q, hQ⟩ : ∃ Q, Q = MQ below (va_Qv (fun u => ∃ (F : Nat → va_E) (R2 V : Nat → Int32), u = va_pl L F ∧ mRep k L F a tw n cn A1 R2 A3 A4 A5 A6 A7 A8 A9 V ∧ rqI A2 R2 q 25 (sMv P9 bg en dy)) (pB D (va_pl L f) s.heap.size) (va_A (va_pl L f) s.heap.size)) ([.ref (a 0), .int (zI ((q : Int))), .int (zI (bg)), .int (zI (en)), .int (zI (dy))] : List Value).toArray s 0 0 (va_A (va_pl L f) s.heap.size) := ⟨_, rfl⟩
  rw [← hQ]
  refine zr_const hx hb dX10_move_0 ?_
  refine lv_istore (lv' := [(5, .int (zI (0))), (0, .ref (a 0)), (1, .int (zI ((q : Int)))), (2, .int (zI (bg))), (3, .int (zI (en))), (4, .int (zI (dy)))]) hx hb dX10_move_1 hl (by decide) rfl (fun ls hl => ?_)
  have cut_3 : ∀ (n9 : Nat) (x : Nat) (z5 : Int) (F3 : Nat → va_E) (V : Nat → Int32), (mRep k L F3 a tw n cn A1 A2 A3 A4 A5 A6 A7 A8 A9 V) → (x ≤ 25) → (z5 = x) → (∀ y, y < x → V y = zI 0) → 25 - z5 < (n9 : Int) → ∀ (H : Heap) (locs : List Loc), va_P D vwCl (va_pl L F3) H → va_D A (va_pl L F3) → va_S A s.heap H locs → ∀ (ls : Array Slot), lv_has ls 10 [(0, .ref (a 0)), (1, .int (zI ((q : Int)))), (2, .int (zI (bg))), (3, .int (zI (en))), (4, .int (zI (dy))), (5, .int (zI (z5)))] → W p l e (headSpec wsX10_move ({ frames := 0, cells := 0, slots := 0, locals := 0 } : Room)).room s m ([.ref (a 0), .int (zI ((q : Int))), .int (zI (bg)), .int (zI (en)), .int (zI (dy))] : List Value).toArray below meth c H locs 0 0 Q (F0 m 3 ls []) := by
    intro n9
    induction n9 with
    | zero =>
      intro x z5 F3 V hF3 hk hz5 hV hfu
      exact absurd hfu (by omega)
    | succ n9 ih_3 =>
      intro x z5 F3 V hF3 hk hz5 hV hfu H locs hP hD hS ls hl
      refine lv_iload hx hb dX10_move_3 (lv_at hl 5 rfl) ?_
      refine zr_bipush hx hb dX10_move_5 (by decide) ?_
      refine zr_icmp_ge (tgt := 24) hx hb dX10_move_7 (by decide) (by omega) (by omega) (fun c1 => ?_) (fun c1 => ?_)
      · refine zr_const hx hb dX10_move_24 ?_
        refine lv_istore (lv' := [(5, .int (zI (0))), (0, .ref (a 0)), (1, .int (zI ((q : Int)))), (2, .int (zI (bg))), (3, .int (zI (en))), (4, .int (zI (dy)))]) hx hb dX10_move_25 hl (by decide) rfl (fun ls hl => ?_)
        have cut_27 : ∀ (n9 : Nat) (y : Nat) (z5b : Int) (F27 : Nat → va_E) (W2 : Nat → Int32), (mRep k L F27 a tw n cn A1 A2 A3 A4 A5 A6 A7 A8 A9 W2) → (y ≤ 625) → (z5b = y) → (rqM W2 y P9 bg en dy) → 625 - z5b < (n9 : Int) → ∀ (H : Heap) (locs : List Loc), va_P D vwCl (va_pl L F27) H → va_D A (va_pl L F27) → va_S A s.heap H locs → ∀ (ls : Array Slot), lv_has ls 10 [(0, .ref (a 0)), (1, .int (zI ((q : Int)))), (2, .int (zI (bg))), (3, .int (zI (en))), (4, .int (zI (dy))), (5, .int (zI (z5b)))] → W p l e (headSpec wsX10_move ({ frames := 0, cells := 0, slots := 0, locals := 0 } : Room)).room s m ([.ref (a 0), .int (zI ((q : Int))), .int (zI (bg)), .int (zI (en)), .int (zI (dy))] : List Value).toArray below meth c H locs 0 0 Q (F0 m 27 ls []) := by
          intro n9
          induction n9 with
          | zero =>
            intro y z5b F27 W2 hF27 hk2 hz5b hW hfu
            exact absurd hfu (by omega)
          | succ n9 ih_27 =>
            intro y z5b F27 W2 hF27 hk2 hz5b hW hfu H locs hP hD hS ls hl
            refine lv_iload hx hb dX10_move_27 (lv_at hl 5 rfl) ?_
            refine zr_sipush hx hb dX10_move_29 (by decide) ?_
            refine zr_icmp_ge (tgt := 137) hx hb dX10_move_32 (by decide) (by omega) (by omega) (fun c2 => ?_) (fun c2 => ?_)
            · refine zr_const hx hb dX10_move_137 ?_
              refine lv_istore (lv' := [(5, .int (zI (0))), (0, .ref (a 0)), (1, .int (zI ((q : Int)))), (2, .int (zI (bg))), (3, .int (zI (en))), (4, .int (zI (dy)))]) hx hb dX10_move_138 hl (by decide) rfl (fun ls hl => ?_)
              have cut_140 : ∀ (n9 : Nat) (x3 : Nat) (z5c : Int) (F140 : Nat → va_E) (R2 : Nat → Int32), (mRep k L F140 a tw n cn A1 R2 A3 A4 A5 A6 A7 A8 A9 W2) → (x3 ≤ 25) → (z5c = x3) → (rqI A2 R2 q x3 (sMv P9 bg en dy)) → 25 - z5c < (n9 : Int) → ∀ (H : Heap) (locs : List Loc), va_P D vwCl (va_pl L F140) H → va_D A (va_pl L F140) → va_S A s.heap H locs → ∀ (ls : Array Slot), lv_has ls 10 [(0, .ref (a 0)), (1, .int (zI ((q : Int)))), (2, .int (zI (bg))), (3, .int (zI (en))), (4, .int (zI (dy))), (5, .int (zI (z5c)))] → W p l e (headSpec wsX10_move ({ frames := 0, cells := 0, slots := 0, locals := 0 } : Room)).room s m ([.ref (a 0), .int (zI ((q : Int))), .int (zI (bg)), .int (zI (en)), .int (zI (dy))] : List Value).toArray below meth c H locs 0 0 Q (F0 m 140 ls []) := by
                intro n9
                induction n9 with
                | zero =>
                  intro x3 z5c F140 R2 hF140 hk3 hz5c hR hfu
                  exact absurd hfu (by omega)
                | succ n9 ih_140 =>
                  intro x3 z5c F140 R2 hF140 hk3 hz5c hR hfu H locs hP hD hS ls hl
                  refine lv_iload hx hb dX10_move_140 (lv_at hl 5 rfl) ?_
                  refine zr_bipush hx hb dX10_move_142 (by decide) ?_
                  refine zr_icmp_ge (tgt := 172) hx hb dX10_move_144 (by decide) (by omega) (by omega) (fun c3 => ?_) (fun c3 => ?_)
                  · rw [hQ]
                    exact pc_vret hx hb hrt hP (by rw [← hAd]; exact hD) (by rw [← hAd]; exact hS) (by obtain rfl : x3 = 25 := (by omega); exact ⟨_, _, _, rfl, hF140, hR⟩) dX10_move_172 hlocks
                  · refine lv_aload_n hx hb dX10_move_147 rfl (lv_at hl 0 rfl) ?_
                    refine pl_get (ci := 9) (v := .ref (a 2)) (C := RX10) (T := TX10) (N := 13) hx hb hts hi_X10 hown hK hP (hF140.2.2.2.2.2.2.2.2.2.2.2.1 0 (by decide)) hF140.1 rfl 3 (by decide) hw_0 (fun _ h9 => h9) rfl dX10_move_148 ?_
                    refine zr_bipush hx hb dX10_move_151 (by decide) ?_
                    refine lv_iload_n hx hb dX10_move_153 rfl (lv_at hl 1 rfl) ?_
                    refine zr_mul hx hb dX10_move_154 ?_
                    refine lv_iload hx hb dX10_move_155 (lv_at hl 5 rfl) ?_
                    refine zr_add hx hb dX10_move_157 ?_
                    refine lv_aload_n hx hb dX10_move_158 rfl (lv_at hl 0 rfl) ?_
                    refine pl_get (ci := 9) (v := .ref (a 10)) (C := RX10) (T := TX10) (N := 13) hx hb hts hi_X10 hown hK hP (hF140.2.2.2.2.2.2.2.2.2.2.2.1 0 (by decide)) hF140.1 rfl 12 (by decide) hw_1 (fun _ h9 => h9) rfl dX10_move_159 ?_
                    refine lv_iload hx hb dX10_move_162 (lv_at hl 5 rfl) ?_
                    refine pl_iald hx hb hK hP (hF140.2.2.2.2.2.2.2.2.2.2.2.1 10 (by decide)) 0 hF140.2.2.2.2.2.2.2.2.2.2.1 rfl (x3) (by omega) (by omega) (by decide) dX10_move_164 ?_
                    refine pl_iast (x := (W2 (x3))) hx hb hK hP hD hS (hF140.2.2.2.2.2.2.2.2.2.2.2.1 2 (by decide)) 0 hF140.2.2.1 rfl (25 * q + x3) (by omega) (by omega) (by decide) dX10_move_165 (fun H locs hP hD hS => ?_)
                    have hP : va_P D vwCl (va_pl L (va_up F140 (a 2) (.inl (k 0, 100, .inl (upd R2 (25 * q + x3) (W2 (x3))))))) H := hP
                    have hD : va_D A (va_pl L (va_up F140 (a 2) (.inl (k 0, 100, .inl (upd R2 (25 * q + x3) (W2 (x3))))))) := hD
                    refine zr_iinc (k := 5) (lv' := [(5, .int (zI (z5c + 1))), (0, .ref (a 0)), (1, .int (zI ((q : Int)))), (2, .int (zI (bg))), (3, .int (zI (en))), (4, .int (zI (dy)))]) hx hb dX10_move_166 hl rfl (by decide) rfl (fun ls hl => ?_)
                    refine lv_goto (tgt := 140) hx hb dX10_move_169 (by decide) ?_
                    exact ih_140 (x3 + 1) (z5c + 1) (va_up F140 (a 2) (.inl (k 0, 100, .inl (upd R2 (25 * q + x3) (W2 (x3)))))) ((upd R2 (25 * q + x3) (W2 (x3)))) ((mRep.s2 hF140 _)) (by omega) (by omega) (rqI_s hR (by omega) (fun t ht => by obtain rfl : y = 625 := (by omega); exact rqM_e hW hP9 (by omega) ht)) (by omega) _ _ hP hD hS _ (lv_sub hl [1, 2, 3, 4, 5, 0] rfl)
              exact cut_140 ((25 - (0) : Int).toNat + 1) (0) (0) (F27) (A2) (hF27) (by omega) (by omega) (rqI_0 _ _ _) (by omega) _ _ hP hD hS _ (lv_sub hl [1, 2, 3, 4, 5, 0] rfl)
            · refine lv_iload hx hb dX10_move_35 (lv_at hl 5 rfl) ?_
              refine zr_bipush hx hb dX10_move_37 (by decide) ?_
              refine zr_div hx hb (by omega) (by omega) dX10_move_39 ?_
              refine lv_istore (lv' := [(6, .int (zI (z5b / 25))), (0, .ref (a 0)), (1, .int (zI ((q : Int)))), (2, .int (zI (bg))), (3, .int (zI (en))), (4, .int (zI (dy))), (5, .int (zI (z5b)))]) hx hb dX10_move_40 hl (by decide) rfl (fun ls hl => ?_)
              refine lv_iload hx hb dX10_move_42 (lv_at hl 6 rfl) ?_
              refine zr_bipush hx hb dX10_move_44 (by decide) ?_
              refine zr_rem hx hb (by omega) (by omega) dX10_move_46 ?_
              refine lv_istore (lv' := [(7, .int (zI (z5b % 25))), (6, .int (zI (z5b / 25))), (0, .ref (a 0)), (1, .int (zI ((q : Int)))), (2, .int (zI (bg))), (3, .int (zI (en))), (4, .int (zI (dy))), (5, .int (zI (z5b)))]) hx hb dX10_move_47 hl (by decide) rfl (fun ls hl => ?_)
              refine lv_aload_n hx hb dX10_move_49 rfl (lv_at hl 2 rfl) ?_
              refine pl_get (ci := 9) (v := .ref (a 2)) (C := RX10) (T := TX10) (N := 13) hx hb hts hi_X10 hown hK hP (hF27.2.2.2.2.2.2.2.2.2.2.2.1 0 (by decide)) hF27.1 rfl 3 (by decide) hw_0 (fun _ h9 => h9) rfl dX10_move_50 ?_
              refine zr_bipush hx hb dX10_move_53 (by decide) ?_
              refine lv_iload_n hx hb dX10_move_55 rfl (lv_at hl 3 rfl) ?_
              refine zr_mul hx hb dX10_move_56 ?_
              refine lv_iload hx hb dX10_move_57 (lv_at hl 1 rfl) ?_
              refine zr_add hx hb dX10_move_59 ?_
              refine pl_iald hx hb hK hP (hF27.2.2.2.2.2.2.2.2.2.2.2.1 2 (by decide)) 0 hF27.2.2.1 rfl (25 * q + y / 25) (by omega) (by omega) (by decide) dX10_move_60 ?_
              refine lv_iload hx hb dX10_move_61 (lv_at hl 0 rfl) ?_
              refine lv_ishr hx hb dX10_move_63 ?_
              refine zr_const hx hb dX10_move_64 ?_
              refine lv_iand hx hb dX10_move_65 ?_
              refine zr_top (sh_bit (j := (y % 25)) (by omega) (by omega)) ?_
              refine zr_const hx hb dX10_move_66 ?_
              refine zr_icmp_ne (tgt := 131) hx hb dX10_move_67 (by decide) (by omega) (by omega) (fun c4 => ?_) (fun c4 => ?_)
              · have hPf := ite_0 c4
                refine zr_iinc (k := 7) (lv' := [(5, .int (zI (z5b + 1))), (7, .int (zI (z5b % 25))), (6, .int (zI (z5b / 25))), (0, .ref (a 0)), (1, .int (zI ((q : Int)))), (2, .int (zI (bg))), (3, .int (zI (en))), (4, .int (zI (dy)))]) hx hb dX10_move_131 hl rfl (by decide) rfl (fun ls hl => ?_)
                refine lv_goto (tgt := 27) hx hb dX10_move_134 (by decide) ?_
                exact ih_27 (y + 1) (z5b + 1) (F27) (W2) (hF27) (by omega) (by omega) (rqM_n hW hP9 (fun q8 => b_tf ((hQ9 (y / 25) (by omega) (y % 25) (by omega)).mpr q8) hPf)) (by omega) _ _ hP hD hS _ (lv_sub hl [3, 4, 5, 6, 7, 0] rfl)
              · have hPx := (hQ9 (y / 25) (by omega) (y % 25) (by omega)).mp (ite_1 c4)
                have hmx := hmv _ _ hPx
                refine lv_iload hx hb dX10_move_70 (lv_at hl 1 rfl) ?_
                refine lv_iload_n hx hb dX10_move_72 rfl (lv_at hl 4 rfl) ?_
                refine zr_icmp_lt (tgt := 84) hx hb dX10_move_73 (by decide) (by omega) (by omega) (fun c5 => ?_) (fun c5 => ?_)
                · have hfx : mvF bg dy (y / 25) = (((y / 25) : Nat) : Int) := mvF_f (by omega)
                  refine lv_iload hx hb dX10_move_84 (lv_at hl 1 rfl) ?_
                  refine lv_istore (lv' := [(8, .int (zI (z5b / 25))), (7, .int (zI (z5b % 25))), (6, .int (zI (z5b / 25))), (0, .ref (a 0)), (1, .int (zI ((q : Int)))), (2, .int (zI (bg))), (3, .int (zI (en))), (4, .int (zI (dy))), (5, .int (zI (z5b)))]) hx hb dX10_move_86 hl (by decide) rfl (fun ls hl => ?_)
                  refine lv_iload hx hb dX10_move_88 (lv_at hl 1 rfl) ?_
                  refine lv_iload_n hx hb dX10_move_90 rfl (lv_at hl 6 rfl) ?_
                  refine zr_icmp_lt (tgt := 102) hx hb dX10_move_91 (by decide) (by omega) (by omega) (fun c6 => ?_) (fun c6 => ?_)
                  · have hlx : mvF en dy (y % 25) = (((y % 25) : Nat) : Int) := mvF_f (by omega)
                    refine lv_iload hx hb dX10_move_102 (lv_at hl 1 rfl) ?_
                    refine lv_istore (lv' := [(9, .int (zI (z5b % 25))), (8, .int (zI (z5b / 25))), (7, .int (zI (z5b % 25))), (6, .int (zI (z5b / 25))), (0, .ref (a 0)), (1, .int (zI ((q : Int)))), (2, .int (zI (bg))), (3, .int (zI (en))), (4, .int (zI (dy))), (5, .int (zI (z5b)))]) hx hb dX10_move_104 hl (by decide) rfl (fun ls hl => ?_)
                    refine lv_aload_n hx hb dX10_move_106 rfl (lv_at hl 4 rfl) ?_
                    refine pl_get (ci := 9) (v := .ref (a 10)) (C := RX10) (T := TX10) (N := 13) hx hb hts hi_X10 hown hK hP (hF27.2.2.2.2.2.2.2.2.2.2.2.1 0 (by decide)) hF27.1 rfl 12 (by decide) hw_1 (fun _ h9 => h9) rfl dX10_move_107 ?_
                    refine lv_iload hx hb dX10_move_110 (lv_at hl 1 rfl) ?_
                    refine lv_dup2_11 hx hb dX10_move_112 rfl rfl ?_
                    refine pl_iald hx hb hK hP (hF27.2.2.2.2.2.2.2.2.2.2.2.1 10 (by decide)) 0 hF27.2.2.2.2.2.2.2.2.2.2.1 rfl ((y / 25)) (by omega) (by omega) (by decide) dX10_move_113 ?_
                    refine lv_iload hx hb dX10_move_114 (lv_at hl 1 rfl) ?_
                    refine lv_iload hx hb dX10_move_116 (lv_at hl 0 rfl) ?_
                    refine zr_icmp_ge (tgt := 128) hx hb dX10_move_118 (by decide) (by omega) (by omega) (fun c7 => ?_) (fun c7 => ?_)
                    · refine zr_const hx hb dX10_move_128 ?_
                      refine lv_ior hx hb dX10_move_129 ?_
                      refine pl_iast (x := ((W2 ((y / 25))) ||| (zI (0)))) hx hb hK hP hD hS (hF27.2.2.2.2.2.2.2.2.2.2.2.1 10 (by decide)) 0 hF27.2.2.2.2.2.2.2.2.2.2.1 rfl ((y / 25)) (by omega) (by omega) (by decide) dX10_move_130 (fun H locs hP hD hS => ?_)
                      have hP : va_P D vwCl (va_pl L (va_up F27 (a 10) (.inl (k 0, 25, .inl (upd W2 ((y / 25)) ((W2 ((y / 25))) ||| (zI (0)))))))) H := hP
                      have hD : va_D A (va_pl L (va_up F27 (a 10) (.inl (k 0, 25, .inl (upd W2 ((y / 25)) ((W2 ((y / 25))) ||| (zI (0)))))))) := hD
                      refine zr_iinc (k := 9) (lv' := [(5, .int (zI (z5b + 1))), (9, .int (zI (z5b % 25))), (8, .int (zI (z5b / 25))), (7, .int (zI (z5b % 25))), (6, .int (zI (z5b / 25))), (0, .ref (a 0)), (1, .int (zI ((q : Int)))), (2, .int (zI (bg))), (3, .int (zI (en))), (4, .int (zI (dy)))]) hx hb dX10_move_131 hl rfl (by decide) rfl (fun ls hl => ?_)
                      refine lv_goto (tgt := 27) hx hb dX10_move_134 (by decide) ?_
                      exact ih_27 (y + 1) (z5b + 1) (va_up F27 (a 10) (.inl (k 0, 25, .inl (upd W2 ((y / 25)) ((W2 ((y / 25))) ||| (zI (0))))))) ((upd W2 ((y / 25)) ((W2 ((y / 25))) ||| (zI (0))))) ((mRep.s10 hF27 _)) (by omega) (by omega) (by first | exact rqM_y hW hP9 (by omega) hPx (hfx.trans (by omega)) (hlx.trans (show _ = (z5b % 25 : Int) by omega)) (mv_v1 (by omega) (by omega)) | exact rqM_y hW hP9 (by omega) hPx (hfx.trans (by omega)) (hlx.trans (show _ = (z5b % 25 : Int) by omega)) (mv_v0 (by omega))) (by omega) _ _ hP hD hS _ (lv_sub hl [5, 6, 7, 8, 9, 0] rfl)
                    · refine zr_const hx hb dX10_move_121 ?_
                      refine lv_iload hx hb dX10_move_122 (lv_at hl 0 rfl) ?_
                      refine zr_shl1 hx hb (by omega) dX10_move_124 ?_
                      refine lv_goto (tgt := 129) hx hb dX10_move_125 (by decide) ?_
                      refine lv_ior hx hb dX10_move_129 ?_
                      refine pl_iast (x := ((W2 ((y / 25))) ||| (pw (z5b % 25).toNat))) hx hb hK hP hD hS (hF27.2.2.2.2.2.2.2.2.2.2.2.1 10 (by decide)) 0 hF27.2.2.2.2.2.2.2.2.2.2.1 rfl ((y / 25)) (by omega) (by omega) (by decide) dX10_move_130 (fun H locs hP hD hS => ?_)
                      have hP : va_P D vwCl (va_pl L (va_up F27 (a 10) (.inl (k 0, 25, .inl (upd W2 ((y / 25)) ((W2 ((y / 25))) ||| (pw (z5b % 25).toNat))))))) H := hP
                      have hD : va_D A (va_pl L (va_up F27 (a 10) (.inl (k 0, 25, .inl (upd W2 ((y / 25)) ((W2 ((y / 25))) ||| (pw (z5b % 25).toNat))))))) := hD
                      refine zr_iinc (k := 9) (lv' := [(5, .int (zI (z5b + 1))), (9, .int (zI (z5b % 25))), (8, .int (zI (z5b / 25))), (7, .int (zI (z5b % 25))), (6, .int (zI (z5b / 25))), (0, .ref (a 0)), (1, .int (zI ((q : Int)))), (2, .int (zI (bg))), (3, .int (zI (en))), (4, .int (zI (dy)))]) hx hb dX10_move_131 hl rfl (by decide) rfl (fun ls hl => ?_)
                      refine lv_goto (tgt := 27) hx hb dX10_move_134 (by decide) ?_
                      exact ih_27 (y + 1) (z5b + 1) (va_up F27 (a 10) (.inl (k 0, 25, .inl (upd W2 ((y / 25)) ((W2 ((y / 25))) ||| (pw (z5b % 25).toNat)))))) ((upd W2 ((y / 25)) ((W2 ((y / 25))) ||| (pw (z5b % 25).toNat)))) ((mRep.s10 hF27 _)) (by omega) (by omega) (by first | exact rqM_y hW hP9 (by omega) hPx (hfx.trans (by omega)) (hlx.trans (show _ = (z5b % 25 : Int) by omega)) (mv_v1 (by omega) (by omega)) | exact rqM_y hW hP9 (by omega) hPx (hfx.trans (by omega)) (hlx.trans (show _ = (z5b % 25 : Int) by omega)) (mv_v0 (by omega))) (by omega) _ _ hP hD hS _ (lv_sub hl [5, 6, 7, 8, 9, 0] rfl)
                  · have hlx : mvF en dy (y % 25) = (((y % 25) : Nat) : Int) + dy := mvF_t (by omega)
                    refine lv_iload hx hb dX10_move_94 (lv_at hl 1 rfl) ?_
                    refine lv_iload hx hb dX10_move_96 (lv_at hl 7 rfl) ?_
                    refine zr_add hx hb dX10_move_98 ?_
                    refine lv_goto (tgt := 104) hx hb dX10_move_99 (by decide) ?_
                    refine lv_istore (lv' := [(9, .int (zI ((z5b % 25) + dy))), (8, .int (zI (z5b / 25))), (7, .int (zI (z5b % 25))), (6, .int (zI (z5b / 25))), (0, .ref (a 0)), (1, .int (zI ((q : Int)))), (2, .int (zI (bg))), (3, .int (zI (en))), (4, .int (zI (dy))), (5, .int (zI (z5b)))]) hx hb dX10_move_104 hl (by decide) rfl (fun ls hl => ?_)
                    refine lv_aload_n hx hb dX10_move_106 rfl (lv_at hl 4 rfl) ?_
                    refine pl_get (ci := 9) (v := .ref (a 10)) (C := RX10) (T := TX10) (N := 13) hx hb hts hi_X10 hown hK hP (hF27.2.2.2.2.2.2.2.2.2.2.2.1 0 (by decide)) hF27.1 rfl 12 (by decide) hw_1 (fun _ h9 => h9) rfl dX10_move_107 ?_
                    refine lv_iload hx hb dX10_move_110 (lv_at hl 1 rfl) ?_
                    refine lv_dup2_11 hx hb dX10_move_112 rfl rfl ?_
                    refine pl_iald hx hb hK hP (hF27.2.2.2.2.2.2.2.2.2.2.2.1 10 (by decide)) 0 hF27.2.2.2.2.2.2.2.2.2.2.1 rfl ((y / 25)) (by omega) (by omega) (by decide) dX10_move_113 ?_
                    refine lv_iload hx hb dX10_move_114 (lv_at hl 1 rfl) ?_
                    refine lv_iload hx hb dX10_move_116 (lv_at hl 0 rfl) ?_
                    refine zr_icmp_ge (tgt := 128) hx hb dX10_move_118 (by decide) (by omega) (by omega) (fun c8 => ?_) (fun c8 => ?_)
                    · refine zr_const hx hb dX10_move_128 ?_
                      refine lv_ior hx hb dX10_move_129 ?_
                      refine pl_iast (x := ((W2 ((y / 25))) ||| (zI (0)))) hx hb hK hP hD hS (hF27.2.2.2.2.2.2.2.2.2.2.2.1 10 (by decide)) 0 hF27.2.2.2.2.2.2.2.2.2.2.1 rfl ((y / 25)) (by omega) (by omega) (by decide) dX10_move_130 (fun H locs hP hD hS => ?_)
                      have hP : va_P D vwCl (va_pl L (va_up F27 (a 10) (.inl (k 0, 25, .inl (upd W2 ((y / 25)) ((W2 ((y / 25))) ||| (zI (0)))))))) H := hP
                      have hD : va_D A (va_pl L (va_up F27 (a 10) (.inl (k 0, 25, .inl (upd W2 ((y / 25)) ((W2 ((y / 25))) ||| (zI (0)))))))) := hD
                      refine zr_iinc (k := 9) (lv' := [(5, .int (zI (z5b + 1))), (9, .int (zI ((z5b % 25) + dy))), (8, .int (zI (z5b / 25))), (7, .int (zI (z5b % 25))), (6, .int (zI (z5b / 25))), (0, .ref (a 0)), (1, .int (zI ((q : Int)))), (2, .int (zI (bg))), (3, .int (zI (en))), (4, .int (zI (dy)))]) hx hb dX10_move_131 hl rfl (by decide) rfl (fun ls hl => ?_)
                      refine lv_goto (tgt := 27) hx hb dX10_move_134 (by decide) ?_
                      exact ih_27 (y + 1) (z5b + 1) (va_up F27 (a 10) (.inl (k 0, 25, .inl (upd W2 ((y / 25)) ((W2 ((y / 25))) ||| (zI (0))))))) ((upd W2 ((y / 25)) ((W2 ((y / 25))) ||| (zI (0))))) ((mRep.s10 hF27 _)) (by omega) (by omega) (by first | exact rqM_y hW hP9 (by omega) hPx (hfx.trans (by omega)) (hlx.trans (show _ = ((z5b % 25) + dy : Int) by omega)) (mv_v1 (by omega) (by omega)) | exact rqM_y hW hP9 (by omega) hPx (hfx.trans (by omega)) (hlx.trans (show _ = ((z5b % 25) + dy : Int) by omega)) (mv_v0 (by omega))) (by omega) _ _ hP hD hS _ (lv_sub hl [5, 6, 7, 8, 9, 0] rfl)
                    · refine zr_const hx hb dX10_move_121 ?_
                      refine lv_iload hx hb dX10_move_122 (lv_at hl 0 rfl) ?_
                      refine zr_shl1 hx hb (by omega) dX10_move_124 ?_
                      refine lv_goto (tgt := 129) hx hb dX10_move_125 (by decide) ?_
                      refine lv_ior hx hb dX10_move_129 ?_
                      refine pl_iast (x := ((W2 ((y / 25))) ||| (pw ((z5b % 25) + dy).toNat))) hx hb hK hP hD hS (hF27.2.2.2.2.2.2.2.2.2.2.2.1 10 (by decide)) 0 hF27.2.2.2.2.2.2.2.2.2.2.1 rfl ((y / 25)) (by omega) (by omega) (by decide) dX10_move_130 (fun H locs hP hD hS => ?_)
                      have hP : va_P D vwCl (va_pl L (va_up F27 (a 10) (.inl (k 0, 25, .inl (upd W2 ((y / 25)) ((W2 ((y / 25))) ||| (pw ((z5b % 25) + dy).toNat))))))) H := hP
                      have hD : va_D A (va_pl L (va_up F27 (a 10) (.inl (k 0, 25, .inl (upd W2 ((y / 25)) ((W2 ((y / 25))) ||| (pw ((z5b % 25) + dy).toNat))))))) := hD
                      refine zr_iinc (k := 9) (lv' := [(5, .int (zI (z5b + 1))), (9, .int (zI ((z5b % 25) + dy))), (8, .int (zI (z5b / 25))), (7, .int (zI (z5b % 25))), (6, .int (zI (z5b / 25))), (0, .ref (a 0)), (1, .int (zI ((q : Int)))), (2, .int (zI (bg))), (3, .int (zI (en))), (4, .int (zI (dy)))]) hx hb dX10_move_131 hl rfl (by decide) rfl (fun ls hl => ?_)
                      refine lv_goto (tgt := 27) hx hb dX10_move_134 (by decide) ?_
                      exact ih_27 (y + 1) (z5b + 1) (va_up F27 (a 10) (.inl (k 0, 25, .inl (upd W2 ((y / 25)) ((W2 ((y / 25))) ||| (pw ((z5b % 25) + dy).toNat)))))) ((upd W2 ((y / 25)) ((W2 ((y / 25))) ||| (pw ((z5b % 25) + dy).toNat)))) ((mRep.s10 hF27 _)) (by omega) (by omega) (by first | exact rqM_y hW hP9 (by omega) hPx (hfx.trans (by omega)) (hlx.trans (show _ = ((z5b % 25) + dy : Int) by omega)) (mv_v1 (by omega) (by omega)) | exact rqM_y hW hP9 (by omega) hPx (hfx.trans (by omega)) (hlx.trans (show _ = ((z5b % 25) + dy : Int) by omega)) (mv_v0 (by omega))) (by omega) _ _ hP hD hS _ (lv_sub hl [5, 6, 7, 8, 9, 0] rfl)
                · have hfx : mvF bg dy (y / 25) = (((y / 25) : Nat) : Int) + dy := mvF_t (by omega)
                  refine lv_iload hx hb dX10_move_76 (lv_at hl 1 rfl) ?_
                  refine lv_iload hx hb dX10_move_78 (lv_at hl 6 rfl) ?_
                  refine zr_add hx hb dX10_move_80 ?_
                  refine lv_goto (tgt := 86) hx hb dX10_move_81 (by decide) ?_
                  refine lv_istore (lv' := [(8, .int (zI ((z5b / 25) + dy))), (7, .int (zI (z5b % 25))), (6, .int (zI (z5b / 25))), (0, .ref (a 0)), (1, .int (zI ((q : Int)))), (2, .int (zI (bg))), (3, .int (zI (en))), (4, .int (zI (dy))), (5, .int (zI (z5b)))]) hx hb dX10_move_86 hl (by decide) rfl (fun ls hl => ?_)
                  refine lv_iload hx hb dX10_move_88 (lv_at hl 1 rfl) ?_
                  refine lv_iload_n hx hb dX10_move_90 rfl (lv_at hl 6 rfl) ?_
                  refine zr_icmp_lt (tgt := 102) hx hb dX10_move_91 (by decide) (by omega) (by omega) (fun c9 => ?_) (fun c9 => ?_)
                  · have hlx : mvF en dy (y % 25) = (((y % 25) : Nat) : Int) := mvF_f (by omega)
                    refine lv_iload hx hb dX10_move_102 (lv_at hl 1 rfl) ?_
                    refine lv_istore (lv' := [(9, .int (zI (z5b % 25))), (8, .int (zI ((z5b / 25) + dy))), (7, .int (zI (z5b % 25))), (6, .int (zI (z5b / 25))), (0, .ref (a 0)), (1, .int (zI ((q : Int)))), (2, .int (zI (bg))), (3, .int (zI (en))), (4, .int (zI (dy))), (5, .int (zI (z5b)))]) hx hb dX10_move_104 hl (by decide) rfl (fun ls hl => ?_)
                    refine lv_aload_n hx hb dX10_move_106 rfl (lv_at hl 4 rfl) ?_
                    refine pl_get (ci := 9) (v := .ref (a 10)) (C := RX10) (T := TX10) (N := 13) hx hb hts hi_X10 hown hK hP (hF27.2.2.2.2.2.2.2.2.2.2.2.1 0 (by decide)) hF27.1 rfl 12 (by decide) hw_1 (fun _ h9 => h9) rfl dX10_move_107 ?_
                    refine lv_iload hx hb dX10_move_110 (lv_at hl 1 rfl) ?_
                    refine lv_dup2_11 hx hb dX10_move_112 rfl rfl ?_
                    refine pl_iald hx hb hK hP (hF27.2.2.2.2.2.2.2.2.2.2.2.1 10 (by decide)) 0 hF27.2.2.2.2.2.2.2.2.2.2.1 rfl (((z5b / 25) + dy).toNat) (by omega) (by omega) (by decide) dX10_move_113 ?_
                    refine lv_iload hx hb dX10_move_114 (lv_at hl 1 rfl) ?_
                    refine lv_iload hx hb dX10_move_116 (lv_at hl 0 rfl) ?_
                    refine zr_icmp_ge (tgt := 128) hx hb dX10_move_118 (by decide) (by omega) (by omega) (fun c10 => ?_) (fun c10 => ?_)
                    · refine zr_const hx hb dX10_move_128 ?_
                      refine lv_ior hx hb dX10_move_129 ?_
                      refine pl_iast (x := ((W2 (((z5b / 25) + dy).toNat)) ||| (zI (0)))) hx hb hK hP hD hS (hF27.2.2.2.2.2.2.2.2.2.2.2.1 10 (by decide)) 0 hF27.2.2.2.2.2.2.2.2.2.2.1 rfl (((z5b / 25) + dy).toNat) (by omega) (by omega) (by decide) dX10_move_130 (fun H locs hP hD hS => ?_)
                      have hP : va_P D vwCl (va_pl L (va_up F27 (a 10) (.inl (k 0, 25, .inl (upd W2 (((z5b / 25) + dy).toNat) ((W2 (((z5b / 25) + dy).toNat)) ||| (zI (0)))))))) H := hP
                      have hD : va_D A (va_pl L (va_up F27 (a 10) (.inl (k 0, 25, .inl (upd W2 (((z5b / 25) + dy).toNat) ((W2 (((z5b / 25) + dy).toNat)) ||| (zI (0)))))))) := hD
                      refine zr_iinc (k := 9) (lv' := [(5, .int (zI (z5b + 1))), (9, .int (zI (z5b % 25))), (8, .int (zI ((z5b / 25) + dy))), (7, .int (zI (z5b % 25))), (6, .int (zI (z5b / 25))), (0, .ref (a 0)), (1, .int (zI ((q : Int)))), (2, .int (zI (bg))), (3, .int (zI (en))), (4, .int (zI (dy)))]) hx hb dX10_move_131 hl rfl (by decide) rfl (fun ls hl => ?_)
                      refine lv_goto (tgt := 27) hx hb dX10_move_134 (by decide) ?_
                      exact ih_27 (y + 1) (z5b + 1) (va_up F27 (a 10) (.inl (k 0, 25, .inl (upd W2 (((z5b / 25) + dy).toNat) ((W2 (((z5b / 25) + dy).toNat)) ||| (zI (0))))))) ((upd W2 (((z5b / 25) + dy).toNat) ((W2 (((z5b / 25) + dy).toNat)) ||| (zI (0))))) ((mRep.s10 hF27 _)) (by omega) (by omega) (by first | exact rqM_y hW hP9 (by omega) hPx (hfx.trans (by omega)) (hlx.trans (show _ = (z5b % 25 : Int) by omega)) (mv_v1 (by omega) (by omega)) | exact rqM_y hW hP9 (by omega) hPx (hfx.trans (by omega)) (hlx.trans (show _ = (z5b % 25 : Int) by omega)) (mv_v0 (by omega))) (by omega) _ _ hP hD hS _ (lv_sub hl [5, 6, 7, 8, 9, 0] rfl)
                    · refine zr_const hx hb dX10_move_121 ?_
                      refine lv_iload hx hb dX10_move_122 (lv_at hl 0 rfl) ?_
                      refine zr_shl1 hx hb (by omega) dX10_move_124 ?_
                      refine lv_goto (tgt := 129) hx hb dX10_move_125 (by decide) ?_
                      refine lv_ior hx hb dX10_move_129 ?_
                      refine pl_iast (x := ((W2 (((z5b / 25) + dy).toNat)) ||| (pw (z5b % 25).toNat))) hx hb hK hP hD hS (hF27.2.2.2.2.2.2.2.2.2.2.2.1 10 (by decide)) 0 hF27.2.2.2.2.2.2.2.2.2.2.1 rfl (((z5b / 25) + dy).toNat) (by omega) (by omega) (by decide) dX10_move_130 (fun H locs hP hD hS => ?_)
                      have hP : va_P D vwCl (va_pl L (va_up F27 (a 10) (.inl (k 0, 25, .inl (upd W2 (((z5b / 25) + dy).toNat) ((W2 (((z5b / 25) + dy).toNat)) ||| (pw (z5b % 25).toNat))))))) H := hP
                      have hD : va_D A (va_pl L (va_up F27 (a 10) (.inl (k 0, 25, .inl (upd W2 (((z5b / 25) + dy).toNat) ((W2 (((z5b / 25) + dy).toNat)) ||| (pw (z5b % 25).toNat))))))) := hD
                      refine zr_iinc (k := 9) (lv' := [(5, .int (zI (z5b + 1))), (9, .int (zI (z5b % 25))), (8, .int (zI ((z5b / 25) + dy))), (7, .int (zI (z5b % 25))), (6, .int (zI (z5b / 25))), (0, .ref (a 0)), (1, .int (zI ((q : Int)))), (2, .int (zI (bg))), (3, .int (zI (en))), (4, .int (zI (dy)))]) hx hb dX10_move_131 hl rfl (by decide) rfl (fun ls hl => ?_)
                      refine lv_goto (tgt := 27) hx hb dX10_move_134 (by decide) ?_
                      exact ih_27 (y + 1) (z5b + 1) (va_up F27 (a 10) (.inl (k 0, 25, .inl (upd W2 (((z5b / 25) + dy).toNat) ((W2 (((z5b / 25) + dy).toNat)) ||| (pw (z5b % 25).toNat)))))) ((upd W2 (((z5b / 25) + dy).toNat) ((W2 (((z5b / 25) + dy).toNat)) ||| (pw (z5b % 25).toNat)))) ((mRep.s10 hF27 _)) (by omega) (by omega) (by first | exact rqM_y hW hP9 (by omega) hPx (hfx.trans (by omega)) (hlx.trans (show _ = (z5b % 25 : Int) by omega)) (mv_v1 (by omega) (by omega)) | exact rqM_y hW hP9 (by omega) hPx (hfx.trans (by omega)) (hlx.trans (show _ = (z5b % 25 : Int) by omega)) (mv_v0 (by omega))) (by omega) _ _ hP hD hS _ (lv_sub hl [5, 6, 7, 8, 9, 0] rfl)
                  · have hlx : mvF en dy (y % 25) = (((y % 25) : Nat) : Int) + dy := mvF_t (by omega)
                    refine lv_iload hx hb dX10_move_94 (lv_at hl 1 rfl) ?_
                    refine lv_iload hx hb dX10_move_96 (lv_at hl 7 rfl) ?_
                    refine zr_add hx hb dX10_move_98 ?_
                    refine lv_goto (tgt := 104) hx hb dX10_move_99 (by decide) ?_
                    refine lv_istore (lv' := [(9, .int (zI ((z5b % 25) + dy))), (8, .int (zI ((z5b / 25) + dy))), (7, .int (zI (z5b % 25))), (6, .int (zI (z5b / 25))), (0, .ref (a 0)), (1, .int (zI ((q : Int)))), (2, .int (zI (bg))), (3, .int (zI (en))), (4, .int (zI (dy))), (5, .int (zI (z5b)))]) hx hb dX10_move_104 hl (by decide) rfl (fun ls hl => ?_)
                    refine lv_aload_n hx hb dX10_move_106 rfl (lv_at hl 4 rfl) ?_
                    refine pl_get (ci := 9) (v := .ref (a 10)) (C := RX10) (T := TX10) (N := 13) hx hb hts hi_X10 hown hK hP (hF27.2.2.2.2.2.2.2.2.2.2.2.1 0 (by decide)) hF27.1 rfl 12 (by decide) hw_1 (fun _ h9 => h9) rfl dX10_move_107 ?_
                    refine lv_iload hx hb dX10_move_110 (lv_at hl 1 rfl) ?_
                    refine lv_dup2_11 hx hb dX10_move_112 rfl rfl ?_
                    refine pl_iald hx hb hK hP (hF27.2.2.2.2.2.2.2.2.2.2.2.1 10 (by decide)) 0 hF27.2.2.2.2.2.2.2.2.2.2.1 rfl (((z5b / 25) + dy).toNat) (by omega) (by omega) (by decide) dX10_move_113 ?_
                    refine lv_iload hx hb dX10_move_114 (lv_at hl 1 rfl) ?_
                    refine lv_iload hx hb dX10_move_116 (lv_at hl 0 rfl) ?_
                    refine zr_icmp_ge (tgt := 128) hx hb dX10_move_118 (by decide) (by omega) (by omega) (fun c11 => ?_) (fun c11 => ?_)
                    · refine zr_const hx hb dX10_move_128 ?_
                      refine lv_ior hx hb dX10_move_129 ?_
                      refine pl_iast (x := ((W2 (((z5b / 25) + dy).toNat)) ||| (zI (0)))) hx hb hK hP hD hS (hF27.2.2.2.2.2.2.2.2.2.2.2.1 10 (by decide)) 0 hF27.2.2.2.2.2.2.2.2.2.2.1 rfl (((z5b / 25) + dy).toNat) (by omega) (by omega) (by decide) dX10_move_130 (fun H locs hP hD hS => ?_)
                      have hP : va_P D vwCl (va_pl L (va_up F27 (a 10) (.inl (k 0, 25, .inl (upd W2 (((z5b / 25) + dy).toNat) ((W2 (((z5b / 25) + dy).toNat)) ||| (zI (0)))))))) H := hP
                      have hD : va_D A (va_pl L (va_up F27 (a 10) (.inl (k 0, 25, .inl (upd W2 (((z5b / 25) + dy).toNat) ((W2 (((z5b / 25) + dy).toNat)) ||| (zI (0)))))))) := hD
                      refine zr_iinc (k := 9) (lv' := [(5, .int (zI (z5b + 1))), (9, .int (zI ((z5b % 25) + dy))), (8, .int (zI ((z5b / 25) + dy))), (7, .int (zI (z5b % 25))), (6, .int (zI (z5b / 25))), (0, .ref (a 0)), (1, .int (zI ((q : Int)))), (2, .int (zI (bg))), (3, .int (zI (en))), (4, .int (zI (dy)))]) hx hb dX10_move_131 hl rfl (by decide) rfl (fun ls hl => ?_)
                      refine lv_goto (tgt := 27) hx hb dX10_move_134 (by decide) ?_
                      exact ih_27 (y + 1) (z5b + 1) (va_up F27 (a 10) (.inl (k 0, 25, .inl (upd W2 (((z5b / 25) + dy).toNat) ((W2 (((z5b / 25) + dy).toNat)) ||| (zI (0))))))) ((upd W2 (((z5b / 25) + dy).toNat) ((W2 (((z5b / 25) + dy).toNat)) ||| (zI (0))))) ((mRep.s10 hF27 _)) (by omega) (by omega) (by first | exact rqM_y hW hP9 (by omega) hPx (hfx.trans (by omega)) (hlx.trans (show _ = ((z5b % 25) + dy : Int) by omega)) (mv_v1 (by omega) (by omega)) | exact rqM_y hW hP9 (by omega) hPx (hfx.trans (by omega)) (hlx.trans (show _ = ((z5b % 25) + dy : Int) by omega)) (mv_v0 (by omega))) (by omega) _ _ hP hD hS _ (lv_sub hl [5, 6, 7, 8, 9, 0] rfl)
                    · refine zr_const hx hb dX10_move_121 ?_
                      refine lv_iload hx hb dX10_move_122 (lv_at hl 0 rfl) ?_
                      refine zr_shl1 hx hb (by omega) dX10_move_124 ?_
                      refine lv_goto (tgt := 129) hx hb dX10_move_125 (by decide) ?_
                      refine lv_ior hx hb dX10_move_129 ?_
                      refine pl_iast (x := ((W2 (((z5b / 25) + dy).toNat)) ||| (pw ((z5b % 25) + dy).toNat))) hx hb hK hP hD hS (hF27.2.2.2.2.2.2.2.2.2.2.2.1 10 (by decide)) 0 hF27.2.2.2.2.2.2.2.2.2.2.1 rfl (((z5b / 25) + dy).toNat) (by omega) (by omega) (by decide) dX10_move_130 (fun H locs hP hD hS => ?_)
                      have hP : va_P D vwCl (va_pl L (va_up F27 (a 10) (.inl (k 0, 25, .inl (upd W2 (((z5b / 25) + dy).toNat) ((W2 (((z5b / 25) + dy).toNat)) ||| (pw ((z5b % 25) + dy).toNat))))))) H := hP
                      have hD : va_D A (va_pl L (va_up F27 (a 10) (.inl (k 0, 25, .inl (upd W2 (((z5b / 25) + dy).toNat) ((W2 (((z5b / 25) + dy).toNat)) ||| (pw ((z5b % 25) + dy).toNat))))))) := hD
                      refine zr_iinc (k := 9) (lv' := [(5, .int (zI (z5b + 1))), (9, .int (zI ((z5b % 25) + dy))), (8, .int (zI ((z5b / 25) + dy))), (7, .int (zI (z5b % 25))), (6, .int (zI (z5b / 25))), (0, .ref (a 0)), (1, .int (zI ((q : Int)))), (2, .int (zI (bg))), (3, .int (zI (en))), (4, .int (zI (dy)))]) hx hb dX10_move_131 hl rfl (by decide) rfl (fun ls hl => ?_)
                      refine lv_goto (tgt := 27) hx hb dX10_move_134 (by decide) ?_
                      exact ih_27 (y + 1) (z5b + 1) (va_up F27 (a 10) (.inl (k 0, 25, .inl (upd W2 (((z5b / 25) + dy).toNat) ((W2 (((z5b / 25) + dy).toNat)) ||| (pw ((z5b % 25) + dy).toNat)))))) ((upd W2 (((z5b / 25) + dy).toNat) ((W2 (((z5b / 25) + dy).toNat)) ||| (pw ((z5b % 25) + dy).toNat)))) ((mRep.s10 hF27 _)) (by omega) (by omega) (by first | exact rqM_y hW hP9 (by omega) hPx (hfx.trans (by omega)) (hlx.trans (show _ = ((z5b % 25) + dy : Int) by omega)) (mv_v1 (by omega) (by omega)) | exact rqM_y hW hP9 (by omega) hPx (hfx.trans (by omega)) (hlx.trans (show _ = ((z5b % 25) + dy : Int) by omega)) (mv_v0 (by omega))) (by omega) _ _ hP hD hS _ (lv_sub hl [5, 6, 7, 8, 9, 0] rfl)
        exact cut_27 ((625 - (0) : Int).toNat + 1) (0) (0) (F3) (V) (hF3) (by omega) (by omega) (rqM_0 (fun y hy => hV y (by omega)) _ _ _ _) (by omega) _ _ hP hD hS _ (lv_sub hl [1, 2, 3, 4, 5, 0] rfl)
      · refine lv_aload_n hx hb dX10_move_10 rfl (lv_at hl 0 rfl) ?_
        refine pl_get (ci := 9) (v := .ref (a 10)) (C := RX10) (T := TX10) (N := 13) hx hb hts hi_X10 hown hK hP (hF3.2.2.2.2.2.2.2.2.2.2.2.1 0 (by decide)) hF3.1 rfl 12 (by decide) hw_1 (fun _ h9 => h9) rfl dX10_move_11 ?_
        refine lv_iload hx hb dX10_move_14 (lv_at hl 5 rfl) ?_
        refine zr_const hx hb dX10_move_16 ?_
        refine pl_iast (x := (zI (0))) hx hb hK hP hD hS (hF3.2.2.2.2.2.2.2.2.2.2.2.1 10 (by decide)) 0 hF3.2.2.2.2.2.2.2.2.2.2.1 rfl (x) (by omega) (by omega) (by decide) dX10_move_17 (fun H locs hP hD hS => ?_)
        have hP : va_P D vwCl (va_pl L (va_up F3 (a 10) (.inl (k 0, 25, .inl (upd V (x) (zI (0))))))) H := hP
        have hD : va_D A (va_pl L (va_up F3 (a 10) (.inl (k 0, 25, .inl (upd V (x) (zI (0))))))) := hD
        refine zr_iinc (k := 5) (lv' := [(5, .int (zI (z5 + 1))), (0, .ref (a 0)), (1, .int (zI ((q : Int)))), (2, .int (zI (bg))), (3, .int (zI (en))), (4, .int (zI (dy)))]) hx hb dX10_move_18 hl rfl (by decide) rfl (fun ls hl => ?_)
        refine lv_goto (tgt := 3) hx hb dX10_move_21 (by decide) ?_
        exact ih_3 (x + 1) (z5 + 1) (va_up F3 (a 10) (.inl (k 0, 25, .inl (upd V (x) (zI (0)))))) ((upd V (x) (zI (0)))) ((mRep.s10 hF3 _)) (by omega) (by omega) (updz hV rfl) (by omega) _ _ hP hD hS _ (lv_sub hl [1, 2, 3, 4, 5, 0] rfl)
  exact cut_3 ((25 - (0) : Int).toNat + 1) (0) (0) (f) (A10) (hM) (by omega) (by omega) (fun y hy => absurd hy (Nat.not_lt_zero y)) (by omega) _ _ hP hD hS _ (lv_sub hl [1, 2, 3, 4, 5, 0] rfl)

/-- kinds below x moved, the others as before -/
def kdI (S : SA) (A2 K2 : Nat → Int32) (bg en dy : Int) (x : Nat) : Prop := ∀ q, q < 4 → (q < x → Rq K2 q (sMv (sMk S q) bg en dy)) ∧ (x ≤ q → ∀ j, j < 25 → K2 (25 * q + j) = A2 (25 * q + j))
theorem kdI_0 (S : SA) (A2 : Nat → Int32) (bg en dy : Int) : kdI S A2 A2 bg en dy 0 := fun q _ => ⟨fun h => absurd h (Nat.not_lt_zero q), fun _ _ _ => rfl⟩
theorem kindQ {S : SA} {A1 A2 A3 A4 A5 A6 A7 K2 : Nat → Int32} {bg en dy : Int} {x : Nat} (hY : mSync S A1 A2 A3 A4 A5 A6 A7) (hK : kdI S A2 K2 bg en dy x) (hx : x < 4) : Rq K2 x (sMk S x) := fun z hz t ht => by
  rw [(hK x hx).2 (Nat.le_refl x) z hz]
  exact mk_q hY hx z hz t ht
theorem kdI_s {S : SA} {A2 K2 R2 : Nat → Int32} {bg en dy : Int} {x : Nat} (hK : kdI S A2 K2 bg en dy x) (hx : x < 4) (h : rqI K2 R2 x 25 (sMv (sMk S x) bg en dy)) : kdI S A2 R2 bg en dy (x + 1) := fun q hq => by
  refine ⟨fun h1 => ?_, fun h1 j hj => ?_⟩
  · by_cases c : q = x
    · subst c; exact h.q
    · exact h.keep c ((hK q hq).1 (by omega))
  · rw [h.1 _ (by omega)]
    exact (hK q hq).2 (by omega) j hj
theorem eo_bit {z : Nat} {x : Int32} {t : Nat} (hz : z ≤ 24) (ht : t < 32) : bt (eoM (z : Int) x) t = true ↔ (t ≤ z ∧ bt x t = true) ∨ (z + 2 ≤ t ∧ bt x (t - 1) = true) := by
  unfold eoM
  have e1 : zI 1 = nI 1 := by decide
  rw [e1, b_or, b_and, b_shl 1 (by decide) _ ht, b_and, mo_up3 z hz t ht, show ((z : Int) + 1) = ((z + 1 : Nat) : Int) by omega, mo_on3 (z + 1) (by omega) (t - 1) (by omega)]
  simp only [Bool.or_eq_true, Bool.and_eq_true, decide_eq_true_eq]
  constructor
  · rintro (⟨a, b⟩ | ⟨a, b, c⟩)
    · exact Or.inl ⟨b, a⟩
    · exact Or.inr ⟨by omega, b⟩
  · rintro (⟨a, b⟩ | ⟨a, b⟩)
    · exact Or.inl ⟨b, a⟩
    · exact Or.inr ⟨by omega, b, by omega⟩
theorem ec_bit {z : Nat} {x : Int32} {t : Nat} (hz : z ≤ 24) (ht : t < 32) : bt (ecM (z : Int) x) t = true ↔ (t ≤ z ∧ bt x t = true) ∨ (z ≤ t ∧ t + 1 < 32 ∧ bt x (t + 1) = true) := by
  unfold ecM
  have e1 : zI 1 = nI 1 := by decide
  rw [e1, b_or, b_and, b_ushr 1 (by decide), b_and, mo_up3 z hz t ht]
  by_cases c : 1 + t < 32
  · rw [show ((z : Int) + 1) = ((z + 1 : Nat) : Int) by omega, mo_on3 (z + 1) (by omega) (1 + t) c, show 1 + t = t + 1 by omega]
    simp only [Bool.or_eq_true, Bool.and_eq_true, decide_eq_true_eq]
    constructor
    · rintro (⟨a, b⟩ | ⟨a, b⟩)
      · exact Or.inl ⟨b, a⟩
      · exact Or.inr ⟨by omega, by omega, a⟩
    · rintro (⟨a, b⟩ | ⟨a, b, d⟩)
      · exact Or.inl ⟨b, a⟩
      · exact Or.inr ⟨d, by omega⟩
  · rw [b_big (x := x) (i := 1 + t) (by omega)]
    simp only [Bool.or_eq_true, Bool.and_eq_true, decide_eq_true_eq]
    constructor
    · rintro (⟨a, b⟩ | ⟨a, b⟩)
      · exact Or.inl ⟨b, a⟩
      · exact absurd a (by decide)
    · rintro (⟨a, b⟩ | ⟨a, b, d⟩)
      · exact Or.inl ⟨b, a⟩
      · omega
/-- the class's rows behind an insertion tell the moved set -/
theorem op2_mv {S : SA} (hO : aOK S) {q z : Nat} (hq : q < 4) (hz : (z : Int) ≤ sN S) (hn : sN S < 24) {j t : Nat} (hj : j < 24) (ht : t < 32) : bt (op2 (sR S q) (z : Int) 24 j) t = true ↔ sMv (sMk S q) (z : Int) ((z : Int) + 1) 1 j t := by
  have hr := hO.2.2.1 q hq
  unfold op2
  by_cases c : (j : Int) = z
  · rw [if_pos c, b_z0]
    refine ⟨fun h => absurd h (by decide), fun ⟨x, y, h1, h2, _⟩ => ?_⟩
    unfold mvF at h2
    by_cases d : (z : Int) ≤ x
    · rw [if_pos d] at h2; omega
    · rw [if_neg d] at h2; omega
  · rw [if_neg c]
    by_cases d : (z : Int) < j
    · rw [if_pos ⟨d, hj⟩, eo_bit (by omega) ht]
      constructor
      · rintro (⟨h1, h2⟩ | ⟨h1, h2⟩)
        · have := hr (j - 1) (by omega) t ht h2; omega
        · have := hr (j - 1) (by omega) (t - 1) (by omega) h2
          exact ⟨j - 1, t - 1, ⟨by omega, by omega, h2⟩, by rw [mvF_t (by omega)]; omega, by rw [mvF_t (by omega)]; omega, by omega⟩
      · rintro ⟨x, y, ⟨h1, h2, h3⟩, h4, h5, h6⟩
        have := hr x h1 y h2 h3
        by_cases e : (z : Int) ≤ x
        · rw [mvF_t e] at h4
          rw [mvF_t (by omega)] at h5
          obtain rfl : x = j - 1 := by omega
          obtain rfl : y = t - 1 := by omega
          exact Or.inr ⟨by omega, h3⟩
        · rw [mvF_f e] at h4; omega
    · rw [if_neg (fun h => d h.1), if_pos hj, eo_bit (by omega) ht]
      constructor
      · rintro (⟨h1, h2⟩ | ⟨h1, h2⟩)
        · have := hr j hj t ht h2
          exact ⟨j, t, ⟨hj, ht, h2⟩, mvF_f (by omega), mvF_f (by omega), by omega⟩
        · have := hr j hj (t - 1) (by omega) h2
          exact ⟨j, t - 1, ⟨hj, by omega, h2⟩, mvF_f (by omega), by rw [mvF_t (by omega)]; omega, by omega⟩
      · rintro ⟨x, y, ⟨h1, h2, h3⟩, h4, h5, h6⟩
        by_cases e : (z : Int) ≤ x
        · rw [mvF_t e] at h4; omega
        · rw [mvF_f e] at h4
          obtain rfl : x = j := by omega
          by_cases e2 : (z : Int) + 1 ≤ y
          · rw [mvF_t e2] at h5
            obtain rfl : y = t - 1 := by omega
            exact Or.inr ⟨by omega, h3⟩
          · rw [mvF_f e2] at h5
            obtain rfl : y = t := by omega
            exact Or.inl ⟨by omega, h3⟩
/-- the class's rows behind a removal tell the moved set -/
theorem clF_mv {S : SA} (hO : aOK S) {q z : Nat} (hq : q < 4) (hz : (z : Int) < sN S) {j t : Nat} (hj : j < 24) (ht : t < 32) : bt (clF (sR S q) (z : Int) j) t = true ↔ sMv (sMk S q) ((z : Int) + 1) ((z : Int) + 1) (-1) j t := by
  have hr := hO.2.2.1 q hq
  have hn := hO.1
  have w1 : ∀ t, t < 32 → (bt (if (j : Int) ≤ z then rowAt (sR S q) (j : Int) else zI 0) t = true ↔ j ≤ z ∧ bt (sR S q j) t = true) := fun t ht => by
    by_cases c : (j : Int) ≤ z
    · rw [if_pos c, rowAt_in (by omega), Int.toNat_natCast]; exact ⟨fun h => ⟨by omega, h⟩, fun h => h.2⟩
    · rw [if_neg c, b_z0]; exact ⟨fun h => absurd h (by decide), fun h => by omega⟩
  have w2 : ∀ t, t < 32 → (bt (if (z : Int) ≤ j then rowAt (sR S q) ((j : Int) + 1) else zI 0) t = true ↔ z ≤ j ∧ j + 1 < 24 ∧ bt (sR S q (j + 1)) t = true) := fun t ht => by
    by_cases c : (z : Int) ≤ j
    · rw [if_pos c]
      by_cases d : j + 1 < 24
      · rw [rowAt_in (by omega), show ((j : Int) + 1).toNat = j + 1 by omega]; exact ⟨fun h => ⟨by omega, d, h⟩, fun h => h.2.2⟩
      · rw [rowAt_out (by omega), b_z0]; exact ⟨fun h => absurd h (by decide), fun h => by omega⟩
    · rw [if_neg c, b_z0]; exact ⟨fun h => absurd h (by decide), fun h => by omega⟩
  unfold clF
  rw [b_and, Bool.and_eq_true, ec_bit (by omega) ht, show ((j : Int) + 1) = ((j + 1 : Nat) : Int) by omega, mo_on3 (j + 1) (by omega) t ht, decide_eq_true_eq]
  rw [show (((j + 1 : Nat) : Int)) = (j : Int) + 1 by omega]
  constructor
  · rintro ⟨h, h0⟩
    rcases h with ⟨h1, h2⟩ | ⟨h1, h1b, h2⟩
    · rw [b_or, Bool.or_eq_true, w1 t ht, w2 t ht] at h2
      rcases h2 with ⟨a, b⟩ | ⟨a, b, c⟩
      · exact ⟨j, t, ⟨hj, ht, b⟩, mvF_f (by omega), mvF_f (by omega), by omega⟩
      · have := hr (j + 1) b t ht c; omega
    · rw [b_or, Bool.or_eq_true, w1 _ h1b, w2 _ h1b] at h2
      rcases h2 with ⟨a, b⟩ | ⟨a, b, c⟩
      · exact ⟨j, t + 1, ⟨hj, h1b, b⟩, mvF_f (by omega), by rw [mvF_t (by omega)]; omega, by omega⟩
      · exact ⟨j + 1, t + 1, ⟨b, h1b, c⟩, by rw [mvF_t (by omega)]; omega, by rw [mvF_t (by omega)]; omega, by omega⟩
  · rintro ⟨x, y, ⟨h1, h2, h3⟩, h4, h5, h6⟩
    have := hr x h1 y h2 h3
    refine ⟨?_, by omega⟩
    by_cases e : (z : Int) + 1 ≤ x
    · rw [mvF_t e] at h4
      rw [mvF_t (by omega)] at h5
      obtain rfl : x = j + 1 := by omega
      obtain rfl : y = t + 1 := by omega
      refine Or.inr ⟨by omega, h2, ?_⟩
      rw [b_or, Bool.or_eq_true, w2 _ h2]
      exact Or.inr ⟨by omega, h1, h3⟩
    · rw [mvF_f e] at h4
      obtain rfl : x = j := by omega
      by_cases e2 : (z : Int) + 1 ≤ y
      · rw [mvF_t e2] at h5
        obtain rfl : y = t + 1 := by omega
        refine Or.inr ⟨by omega, h2, ?_⟩
        rw [b_or, Bool.or_eq_true, w1 _ h2]
        exact Or.inl ⟨by omega, h3⟩
      · rw [mvF_f e2] at h5
        obtain rfl : y = t := by omega
        refine Or.inl ⟨by omega, ?_⟩
        rw [b_or, Bool.or_eq_true, w1 _ ht]
        exact Or.inl ⟨by omega, h3⟩
theorem mv_ins {S : SA} (hO : aOK S) {q z : Nat} (hq : q < 4) (hz : (z : Int) ≤ sN S) (hn : sN S < 24) : ∀ x y, sMk S q x y → (0 ≤ mvF (z : Int) 1 x ∧ mvF (z : Int) 1 x ≤ 24) ∧ (0 ≤ mvF ((z : Int) + 1) 1 y ∧ mvF ((z : Int) + 1) 1 y ≤ 24) := fun x y h => by
  have := hO.2.2.1 q hq x h.1 y h.2.1 h.2.2
  unfold mvF
  constructor
  · by_cases c : (z : Int) ≤ x
    · rw [if_pos c]; omega
    · rw [if_neg c]; omega
  · by_cases c : (z : Int) + 1 ≤ y
    · rw [if_pos c]; omega
    · rw [if_neg c]; omega
theorem mv_rem {S : SA} (hO : aOK S) {q z : Nat} (hq : q < 4) : ∀ x y, sMk S q x y → (0 ≤ mvF ((z : Int) + 1) (-1) x ∧ mvF ((z : Int) + 1) (-1) x ≤ 24) ∧ (0 ≤ mvF ((z : Int) + 1) (-1) y ∧ mvF ((z : Int) + 1) (-1) y ≤ 24) := fun x y h => by
  have := hO.2.2.1 q hq x h.1 y h.2.1 h.2.2
  have := hO.1
  unfold mvF
  constructor
  · by_cases c : (z : Int) + 1 ≤ x
    · rw [if_pos c]; omega
    · rw [if_neg c]; omega
  · by_cases c : (z : Int) + 1 ≤ y
    · rw [if_pos c]; omega
    · rw [if_neg c]; omega
theorem mv_row24 {S : SA} (hO : aOK S) {q : Nat} {bg en dy : Int} (hq : q < 4) (hd : dy = 1 ∧ sN S < 24 ∨ dy = -1) (t : Nat) : ¬ sMv (sMk S q) bg en dy 24 t := fun ⟨x, y, h1, h2, h3, h4⟩ => by
  have := hO.2.2.1 q hq x h1.1 y h1.2.1 h1.2.2
  have := hO.1
  by_cases c : bg ≤ (x : Int)
  · rw [mvF_t c] at h2; omega
  · rw [mvF_f c] at h2; omega
theorem kd_rows {S : SA} (hO : aOK S) {A2 K2 : Nat → Int32} {G : Nat → Nat → Int32} {bg en dy : Int} (hK : kdI S A2 K2 bg en dy 4) (hd : dy = 1 ∧ sN S < 24 ∨ dy = -1) (hG : ∀ q, q < 4 → ∀ j, j < 24 → ∀ t, t < 32 → (bt (G q j) t = true ↔ sMv (sMk S q) bg en dy j t)) : ∀ q, q < 4 → (∀ j, j < 24 → K2 (25 * q + j) = G q j) ∧ K2 (25 * q + 24) = 0 := fun q hq => by
  have h := (hK q hq).1 hq
  refine ⟨fun j hj => b_ext fun t ht => Bool.eq_iff_iff.mpr ((h j (by omega) t ht).trans (hG q hq j hj t ht).symm), b_eq0.mpr fun t ht => ?_⟩
  cases e : bt (K2 (25 * q + 24)) t with
  | false => rfl
  | true => exact absurd ((h 24 (by decide) t ht).mp e) (mv_row24 hO hq hd t)
