theorem gatN_no {S : SA} {nd : Int32} {G : Nat → Nat → Int32} {m : Nat} (h : ¬ (m < sC S ∧ bt nd m = true)) : gatN S nd G (m + 1) = gatN S nd G m := if_neg h
theorem gatN_yes {S : SA} {nd : Int32} {G : Nat → Nat → Int32} {m : Nat} (h1 : m < sC S) (h2 : bt nd m = true) : gatN S nd G (m + 1) = fun j => if j = m then gatF S (gatN S nd G m) m else gatN S nd G m j := if_pos ⟨h1, h2⟩
