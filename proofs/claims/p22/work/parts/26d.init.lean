def S00 : SA := (0, (fun _ => 0), (fun _ _ => 0), 0, (fun _ => 0), (fun _ => 0), (fun _ => 0), (fun _ => 0), (fun _ => 0))
def gA0 (h tx la ma e s0 t0 s1 t1 s2 t2 s3 t3 : Nat) : Nat → Nat
  | 0 => h | 1 => tx | 2 => la | 3 => ma | 4 => e | 5 => s0 | 6 => s1 | 7 => s2 | 8 => s3 | 9 => t0 | 10 => t1 | 11 => t2 | _ => t3
theorem S00_ok : aOK S00 := ⟨⟨by decide, by decide⟩, fun j h => absurd (show (j : Int) < 0 from h) (by omega), (fun q _ j _ t _ h => absurd (show bt 0 t = true from h) (by rw [b_0]; decide)), by decide, fun i h => absurd (show i < 0 from h) (by omega)⟩
theorem cRep.init {k : Nat → ClassId} {L : List Nat} {F : Nat → va_E} {h tx la ma e s0 t0 s1 t1 s2 t2 s3 t3 : Nat}
    (mh : h ∈ L) (mtx : tx ∈ L) (mla : la ∈ L) (mma : ma ∈ L) (me : e ∈ L) (ms0 : s0 ∈ L) (mt0 : t0 ∈ L) (ms1 : s1 ∈ L) (mt1 : t1 ∈ L) (ms2 : s2 ∈ L) (mt2 : t2 ∈ L) (ms3 : s3 ∈ L) (mt3 : t3 ∈ L)
    (eh : F h = .inr (8, [.ref tx, .ref e, .int (zI 0)])) (etx : F tx = .inr (7, [.ref la, .ref ma, .int (0)])) (ela : F la = .inl (k 0, 24, .inl (fun _ => 0))) (ema : F ma = .inl (k 3, 4, .inr (.inr (.inr (.inr (va_up (va_up (va_up (va_up (fun _ => none) 0 (some s0)) 1 (some s1)) 2 (some s2)) 3 (some s3))))))) (ee : F e = .inl (k 2, 30, .inr (.inr (.inr (.inr (fun _ => none))))))
    (e0 : F s0 = .inr (5, [.ref t0])) (r0 : F t0 = .inl (k 0, 24, .inl (fun _ => 0))) (e1 : F s1 = .inr (5, [.ref t1])) (r1 : F t1 = .inl (k 0, 24, .inl (fun _ => 0))) (e2 : F s2 = .inr (5, [.ref t2])) (r2 : F t2 = .inl (k 0, 24, .inl (fun _ => 0))) (e3 : F s3 = .inr (5, [.ref t3])) (r3 : F t3 = .inl (k 0, 24, .inl (fun _ => 0)))
    (n0 : la ≠ t0) (n1 : la ≠ t1) (n2 : la ≠ t2) (n3 : la ≠ t3) (n10 : t1 ≠ t0) (n20 : t2 ≠ t0) (n21 : t2 ≠ t1) (n30 : t3 ≠ t0) (n31 : t3 ≠ t1) (n32 : t3 ≠ t2) :
    cRep k L F (gA0 h tx la ma e s0 t0 s1 t1 s2 t2 s3 t3, (fun _ _ => 0), va_up (va_up (va_up (va_up (fun _ => none) 0 (some s0)) 1 (some s1)) 2 (some s2)) 3 (some s3), (fun _ => none), (fun a => if a = t0 then 1 else if a = t1 then 2 else if a = t2 then 3 else if a = t3 then 4 else 0), (fun _ => 0), (fun _ _ _ => 0)) S00 := by
  refine ⟨⟨eh, etx, ela, ema, ee⟩, fun j hj => ?_, ?_, fun j hj => ?_, fun i hi => absurd (show i < 0 from hi) (by omega), fun i _ _ => rfl⟩
  · rcases (show j = 0 ∨ j = 1 ∨ j = 2 ∨ j = 3 ∨ j = 4 by omega) with rfl | rfl | rfl | rfl | rfl
    · exact mh
    · exact mtx
    · exact mla
    · exact mma
    · exact me
  · show (if la = t0 then 1 else if la = t1 then 2 else if la = t2 then 3 else if la = t3 then 4 else 0) = 0
    rw [if_neg n0, if_neg n1, if_neg n2, if_neg n3]
  · rcases (show j = 0 ∨ j = 1 ∨ j = 2 ∨ j = 3 by omega) with rfl | rfl | rfl | rfl
    · refine ⟨?_, ms0, e0, mt0, r0, if_pos rfl⟩
      show va_up (va_up (va_up (va_up (fun _ => none) 0 (some s0)) 1 (some s1)) 2 (some s2)) 3 (some s3) 0 = some s0
      rw [va_up_ne _ _ (by decide), va_up_ne _ _ (by decide), va_up_ne _ _ (by decide), va_up_self]
    · refine ⟨?_, ms1, e1, mt1, r1, (if_neg n10).trans (if_pos rfl)⟩
      show va_up (va_up (va_up (va_up (fun _ => none) 0 (some s0)) 1 (some s1)) 2 (some s2)) 3 (some s3) 1 = some s1
      rw [va_up_ne _ _ (by decide), va_up_ne _ _ (by decide), va_up_self]
    · refine ⟨?_, ms2, e2, mt2, r2, (if_neg n20).trans ((if_neg n21).trans (if_pos rfl))⟩
      show va_up (va_up (va_up (va_up (fun _ => none) 0 (some s0)) 1 (some s1)) 2 (some s2)) 3 (some s3) 2 = some s2
      rw [va_up_ne _ _ (by decide), va_up_self]
    · refine ⟨?_, ms3, e3, mt3, r3, (if_neg n30).trans ((if_neg n31).trans ((if_neg n32).trans (if_pos rfl)))⟩
      show va_up (va_up (va_up (va_up (fun _ => none) 0 (some s0)) 1 (some s1)) 2 (some s2)) 3 (some s3) 3 = some s3
      rw [va_up_self]
