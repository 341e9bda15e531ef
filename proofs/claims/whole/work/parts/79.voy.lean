theorem k_voyage {c : Nat → Nat → Int32} {j : Nat → Nat → Int64} {w : Nat → Nat} {m : Nat → Nat → Int32} {n : Nat → Nat → Int64} (I : INV c w m) (x : Int32) : CALL (X10_voyage 0 x) (X11_voyage 75 x) c j w m n := by
  sorry
