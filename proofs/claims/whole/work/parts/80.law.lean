/-! the law, call by call -/
theorem lgc_rf (x : Int64) : lg_cmp x x = 0 := by
  unfold lg_cmp
  simp
def bx (z : Int32) : Bool := !(z == 0)
theorem ite_b {α : Type} (F : Int32 → α) (z : Int32) : (if z = 0 then F 0 else F 1) = F (bI (bx z)) := by
  by_cases e : z = 0
  · rw [if_pos e, show bx z = false by simp [bx, e]]; rfl
  · rw [if_neg e, show bx z = true by simp [bx, e]]; rfl
theorem xA_at {N : Nat} {xs : Nat → Int32} {i d : Nat} (hN : N ≤ 384) (h : i + d < N) : xA N xs (nI i + nI d) = some (xs (i + d)) := by
  unfold xA
  rw [N_add, N_tn (by omega), if_neg (fun z => z.elim (fun q => by rw [N_lt0 (by omega)] at q; exact q) (fun q => by omega))]
theorem law_step {N : Nat} (hN : N ≤ 384) {xs : Nat → Int32} {i : Nat} (hi : i + 6 ≤ N) {f : Nat → Nat → Nat → Int32 → Hp → Option Unit} (ih : ∀ (c : Nat → Nat → Int32) (j : Nat → Nat → Int64) (w : Nat → Nat) (m : Nat → Nat → Int32) (n : Nat → Nat → Int64), INV c w m → f 0 75 95 (nI (i + 6)) (enc c j w m n) = some ()) {c : Nat → Nat → Int32} {j : Nat → Nat → Int64} {w : Nat → Nat} {m : Nat → Nat → Int32} {n : Nat → Nat → Int64} (I : INV c w m) : L_law_L23_s N xs f 0 75 95 (nI i) (enc c j w m n) = some () := by
  have q0 : xA N xs (nI i) = some (xs i) := by
    unfold xA
    rw [N_tn (by omega), if_neg (fun z => z.elim (fun q => by rw [N_lt0 (by omega)] at q; exact q) (fun q => by omega))]
  have q1 : xA N xs (nI i + 1) = some (xs (i + 1)) := xA_at (d := 1) hN (by omega)
  have q2 : xA N xs (nI i + 2) = some (xs (i + 2)) := xA_at (d := 2) hN (by omega)
  have q3 : xA N xs (nI i + 3) = some (xs (i + 3)) := xA_at (d := 3) hN (by omega)
  have q4 : xA N xs (nI i + 4) = some (xs (i + 4)) := xA_at (d := 4) hN (by omega)
  have q5 : xA N xs (nI i + 5) = some (xs (i + 5)) := xA_at (d := 5) hN (by omega)
  have go : ∀ (c : Nat → Nat → Int32) (j : Nat → Nat → Int64) (w : Nat → Nat) (m : Nat → Nat → Int32) (n : Nat → Nat → Int64), INV c w m → L_law_B1762 N xs f 0 75 95 (nI i) (enc c j w m n) = some () := fun c j w m n I => by
    unfold L_law_B1762
    rw [show nI i + 6 = nI (i + 6) from N_add i 6]
    exact ih c j w m n I
  unfold L_law_L23_s
  rw [if_neg (by rw [show (6 : Int32) = nI 6 from rfl, N_sub (by omega), N_lt (by omega) (by omega)]; omega), q0, ob_some, pin_eq]
  generalize xs i &&& 63 = v
  by_cases h0 : v = 0
  · rw [if_pos h0, q1, ob_some, q2, ob_some, q3, ob_some, q4, ob_some, q5, ob_some]
    obtain ⟨r, c1, j1, w1, m1, n1, e1, e2, I1⟩ := k_feed (j := j) (n := n) I (xs (i + 1)) (xs (i + 2)) (xs (i + 3)) (xs (i + 4)) (xs (i + 5))
    rw [cV0, e1, bd_eq, ob_some, ob_some, ob_some, ob_some, ob_some, cV75, e2, bd_eq, if_pos rfl]
    exact go c1 j1 w1 m1 n1 I1
  rw [if_neg h0]
  by_cases h1 : v = 1
  · rw [if_pos h1, q1, ob_some]
    obtain ⟨r, c1, j1, w1, m1, n1, e1, e2, I1⟩ := k_voyage (j := j) (n := n) I (xs (i + 1))
    rw [cV0, e1, bd_eq, ob_some, cV75, e2, bd_eq, if_pos rfl]
    exact go c1 j1 w1 m1 n1 I1
  rw [if_neg h1]
  by_cases h2 : v = 2
  · rw [if_pos h2]
    obtain ⟨r, c1, j1, w1, m1, n1, e1, e2, I1⟩ := k_fault (j := j) (n := n) I
    rw [cV0, e1, bd_eq, cV75, e2, bd_eq, if_pos rfl]
    exact go c1 j1 w1 m1 n1 I1
  rw [if_neg h2]
  by_cases h3 : v = 3
  · rw [if_pos h3]
    obtain ⟨r, c1, j1, w1, m1, n1, e1, e2, I1⟩ := k_where (j := j) (n := n) I
    rw [cV0, e1, bd_eq, cV75, e2, bd_eq, if_pos rfl]
    exact go c1 j1 w1 m1 n1 I1
  rw [if_neg h3]
  by_cases h4 : v = 4
  · rw [if_pos h4, q1, ob_some, q2, ob_some]
    obtain ⟨r, c1, j1, w1, m1, n1, e1, e2, I1⟩ := k_watch (j := j) (n := n) I (xs (i + 1)) (xs (i + 2))
    rw [cV0, e1, bd_eq, ob_some, ob_some, cV75, e2, bd_eq, if_pos rfl]
    exact go c1 j1 w1 m1 n1 I1
  rw [if_neg h4]
  by_cases h5 : v = 5
  · rw [if_pos h5, q1, ob_some, q2, ob_some]
    obtain ⟨r, c1, j1, w1, m1, n1, e1, e2, I1⟩ := k_boy (j := j) (n := n) I (xs (i + 1)) (xs (i + 2))
    rw [cV0, e1, bd_eq, ob_some, ob_some, cV75, e2, bd_eq, if_pos rfl]
    exact go c1 j1 w1 m1 n1 I1
  rw [if_neg h5]
  by_cases h6 : v = 6
  · rw [if_pos h6, q1, ob_some, q2, ob_some]
    obtain ⟨r, c1, j1, w1, m1, n1, e1, e2, I1⟩ := k_officer (j := j) (n := n) I (xs (i + 1)) (xs (i + 2))
    rw [cV0, e1, bd_eq, ob_some, ob_some, cV75, e2, bd_eq, if_pos rfl]
    exact go c1 j1 w1 m1 n1 I1
  rw [if_neg h6]
  by_cases h7 : v = 7
  · rw [if_pos h7, q1, ob_some, q2, ob_some]
    obtain ⟨r, c1, j1, w1, m1, n1, e1, e2, I1⟩ := k_glass (j := j) (n := n) I (xs (i + 1)) (xs (i + 2))
    rw [cV0, e1, bd_eq, ob_some, ob_some, cV75, e2, bd_eq, if_pos rfl]
    exact go c1 j1 w1 m1 n1 I1
  rw [if_neg h7]
  by_cases h8 : v = 8
  · rw [if_pos h8, q1, ob_some]
    obtain ⟨r, c1, j1, w1, m1, n1, e1, e2, I1⟩ := k_stolen (j := j) (n := n) I (xs (i + 1))
    rw [cV0, e1, bd_eq, ob_some, cV75, e2, bd_eq, if_pos rfl]
    exact go c1 j1 w1 m1 n1 I1
  rw [if_neg h8]
  by_cases h9 : v = 9
  · rw [if_pos h9, q1, ob_some]
    obtain ⟨r, c1, j1, w1, m1, n1, e1, e2, I1⟩ := k_stolenBy (j := j) (n := n) I (xs (i + 1))
    rw [cV0, e1, bd_eq, ob_some, cV75, e2, bd_eq, if_pos rfl]
    exact go c1 j1 w1 m1 n1 I1
  rw [if_neg h9]
  by_cases h10 : v = 10
  · rw [if_pos h10]
    obtain ⟨r, c1, j1, w1, m1, n1, e1, e2, I1⟩ := k_thief (j := j) (n := n) I
    rw [cV0, e1, bd_eq, cV75, e2, bd_eq, if_pos rfl]
    exact go c1 j1 w1 m1 n1 I1
  rw [if_neg h10]
  by_cases h11 : v = 11
  · rw [if_pos h11]
    obtain ⟨r, c1, j1, w1, m1, n1, e1, e2, I1⟩ := k_lostWatch (j := j) (n := n) I
    rw [cV0, e1, bd_eq, cV75, e2, bd_eq, if_pos rfl]
    exact go c1 j1 w1 m1 n1 I1
  rw [if_neg h11]
  by_cases h12 : v = 12
  · rw [if_pos h12, q1, ob_some, q2, ob_some, ite_b (fun y => L_law_B637 N xs f 0 75 95 (nI i) 0 (xs (i + 1)) y (enc c j w m n))]
    obtain ⟨r, c1, j1, w1, m1, n1, e1, e2, I1⟩ := k_at (j := j) (n := n) I (xs (i + 1)) (bI (bx (xs (i + 2))))
    unfold L_law_B637
    rw [cV0, e1, bd_eq, q1, ob_some, q2, ob_some, ite_b (fun y => L_law_B661 N xs f 0 75 95 (nI i) r 75 (xs (i + 1)) y (enc c1 j1 w1 m n))]
    unfold L_law_B661
    rw [cV75, e2, bd_eq, if_pos rfl]
    exact go c1 j1 w1 m1 n1 I1
  rw [if_neg h12]
  by_cases h13 : v = 13
  · rw [if_pos h13, q1, ob_some, q2, ob_some, ite_b (fun y => L_law_B690 N xs f 0 75 95 (nI i) 0 (xs (i + 1)) y (enc c j w m n))]
    obtain ⟨r, c1, j1, w1, m1, n1, e1, e2, I1⟩ := k_thought (j := j) (n := n) I (xs (i + 1)) (bI (bx (xs (i + 2))))
    unfold L_law_B690
    rw [cV0, e1, bd_eq, q1, ob_some, q2, ob_some, ite_b (fun y => L_law_B714 N xs f 0 75 95 (nI i) r 75 (xs (i + 1)) y (enc c1 j1 w1 m n))]
    unfold L_law_B714
    rw [cV75, e2, bd_eq, if_pos rfl]
    exact go c1 j1 w1 m1 n1 I1
  rw [if_neg h13]
  by_cases h14 : v = 14
  · rw [if_pos h14, q1, ob_some]
    obtain ⟨r, c1, j1, w1, m1, n1, e1, e2, I1⟩ := k_error (j := j) (n := n) I (xs (i + 1))
    rw [cV0, e1, bd_eq, ob_some, cV75, e2, bd_eq, if_pos rfl]
    exact go c1 j1 w1 m1 n1 I1
  rw [if_neg h14]
  by_cases h15 : v = 15
  · rw [if_pos h15]
    obtain ⟨r, c1, j1, w1, m1, n1, e1, e2, I1⟩ := k_worst (j := j) (n := n) I
    rw [cV0, e1, bd_eq, cV75, e2, bd_eq, if_pos rfl]
    exact go c1 j1 w1 m1 n1 I1
  rw [if_neg h15]
  by_cases h16 : v = 16
  · rw [if_pos h16, q1, ob_some]
    obtain ⟨r, c1, j1, w1, m1, n1, e1, e2, I1⟩ := k_square (j := j) (n := n) I (xs (i + 1))
    rw [cV0, e1, bd_eq, ob_some, cV75, e2, bd_eq, if_pos rfl]
    exact go c1 j1 w1 m1 n1 I1
  rw [if_neg h16]
  by_cases h17 : v = 17
  · rw [if_pos h17, q1, ob_some]
    obtain ⟨r, c1, j1, w1, m1, n1, e1, e2, I1⟩ := k_squareThought (j := j) (n := n) I (xs (i + 1))
    rw [cV0, e1, bd_eq, ob_some, cV75, e2, bd_eq, if_pos rfl]
    exact go c1 j1 w1 m1 n1 I1
  rw [if_neg h17]
  by_cases h18 : v = 18
  · rw [if_pos h18]
    obtain ⟨r, c1, j1, w1, m1, n1, e1, e2, I1⟩ := k_strikes (j := j) (n := n) I
    rw [cV0, e1, bd_eq, cV75, e2, bd_eq, if_pos rfl]
    exact go c1 j1 w1 m1 n1 I1
  rw [if_neg h18]
  by_cases h19 : v = 19
  · rw [if_pos h19]
    obtain ⟨r, c1, j1, w1, m1, n1, e1, e2, I1⟩ := k_feared (j := j) (n := n) I
    rw [cV0, e1, bd_eq, cV75, e2, bd_eq, if_pos rfl]
    exact go c1 j1 w1 m1 n1 I1
  rw [if_neg h19]
  by_cases h20 : v = 20
  · rw [if_pos h20, q1, ob_some]
    obtain ⟨r, c1, j1, w1, m1, n1, e1, e2, I1⟩ := k_canBe (j := j) (n := n) I (xs (i + 1))
    rw [cV0, e1, bd_eq, ob_some, cV75, e2, bd_eq, if_pos rfl]
    exact go c1 j1 w1 m1 n1 I1
  rw [if_neg h20]
  by_cases h21 : v = 21
  · rw [if_pos h21]
    obtain ⟨r, c1, j1, w1, m1, n1, e1, e2, I1⟩ := k_perils (j := j) (n := n) I
    rw [cV0, e1, bd_eq, cV75, e2, bd_eq, if_pos rfl]
    exact go c1 j1 w1 m1 n1 I1
  rw [if_neg h21]
  by_cases h22 : v = 22
  · rw [if_pos h22, q1, ob_some]
    obtain ⟨r, c1, j1, w1, m1, n1, e1, e2, I1⟩ := k_attendFor (j := j) (n := n) I (xs (i + 1))
    rw [cV0, e1, bd_eq, ob_some, cV75, e2, bd_eq, if_pos rfl]
    exact go c1 j1 w1 m1 n1 I1
  rw [if_neg h22]
  by_cases h23 : v = 23
  · rw [if_pos h23, q1, ob_some]
    obtain ⟨r, c1, j1, w1, m1, n1, e1, e2, I1⟩ := k_stolenIf (j := j) (n := n) I (xs (i + 1))
    rw [cV0, e1, bd_eq, ob_some, cV75, e2, bd_eq, if_pos rfl]
    exact go c1 j1 w1 m1 n1 I1
  rw [if_neg h23]
  by_cases h24 : v = 24
  · rw [if_pos h24]
    obtain ⟨r, c1, j1, w1, m1, n1, e1, e2, I1⟩ := k_lookFirst (j := j) (n := n) I
    rw [cV0, e1, bd_eq, cV75, e2, bd_eq, if_pos rfl]
    exact go c1 j1 w1 m1 n1 I1
  rw [if_neg h24]
  by_cases h25 : v = 25
  · rw [if_pos h25]
    obtain ⟨r, c1, j1, w1, m1, n1, e1, e2, I1⟩ := k_change (j := j) (n := n) I
    rw [cV0, e1, bd_eq, cV75, e2, bd_eq, if_pos rfl]
    exact go c1 j1 w1 m1 n1 I1
  rw [if_neg h25]
  by_cases h26 : v = 26
  · rw [if_pos h26, q1, ob_some, q2, ob_some]
    obtain ⟨r, c1, j1, w1, m1, n1, e1, e2, I1⟩ := k_strikesIf (j := j) (n := n) I (xs (i + 1)) (xs (i + 2))
    rw [cV0, e1, bd_eq, ob_some, ob_some, cV75, e2, bd_eq, if_pos rfl]
    exact go c1 j1 w1 m1 n1 I1
  rw [if_neg h26]
  by_cases h27 : v = 27
  · rw [if_pos h27, q1, ob_some]
    obtain ⟨r, c1, j1, w1, m1, n1, e1, e2, I1⟩ := k_relief (j := j) (n := n) I (xs (i + 1))
    rw [cV0, e1, bd_eq, ob_some, cV75, e2, bd_eq, if_pos rfl]
    exact go c1 j1 w1 m1 n1 I1
  rw [if_neg h27]
  by_cases h28 : v = 28
  · rw [if_pos h28]
    obtain ⟨r, c1, j1, w1, m1, n1, e1, e2, I1⟩ := k_fits (j := j) (n := n) I
    rw [cV0, e1, bd_eq, cV75, e2, bd_eq, if_pos rfl]
    exact go c1 j1 w1 m1 n1 I1
  rw [if_neg h28]
  by_cases h29 : v = 29
  · rw [if_pos h29, q1, ob_some]
    obtain ⟨r, c1, j1, w1, m1, n1, e1, e2, I1⟩ := k_fitAt (j := j) (n := n) I (xs (i + 1))
    rw [cV0, e1, bd_eq, ob_some, cV75, e2, bd_eq, if_pos rfl]
    exact go c1 j1 w1 m1 n1 I1
  rw [if_neg h29]
  by_cases h30 : v = 30
  · rw [if_pos h30]
    obtain ⟨r, c1, j1, w1, m1, n1, e1, e2, I1⟩ := k_could (j := j) (n := n) I
    rw [cV0, e1, bd_eq, cV75, e2, bd_eq, if_pos rfl]
    exact go c1 j1 w1 m1 n1 I1
  rw [if_neg h30]
  by_cases h31 : v = 31
  · rw [if_pos h31]
    obtain ⟨r, c1, j1, w1, m1, n1, e1, e2, I1⟩ := k_surely (j := j) (n := n) I
    rw [cV0, e1, bd_eq, cV75, e2, bd_eq, if_pos rfl]
    exact go c1 j1 w1 m1 n1 I1
  rw [if_neg h31]
  by_cases h32 : v = 32
  · rw [if_pos h32]
    obtain ⟨r, c1, j1, w1, m1, n1, e1, e2, I1⟩ := k_fix (j := j) (n := n) I
    rw [cV0, e1, bd_eq, cV75, e2, bd_eq, if_pos rfl]
    exact go c1 j1 w1 m1 n1 I1
  rw [if_neg h32]
  by_cases h33 : v = 33
  · rw [if_pos h33]
    obtain ⟨r, c1, j1, w1, m1, n1, e1, e2, I1⟩ := k_fixLeaves (j := j) (n := n) I
    rw [cV0, e1, bd_eq, cV75, e2, bd_eq, if_pos rfl]
    exact go c1 j1 w1 m1 n1 I1
  rw [if_neg h33]
  by_cases h34 : v = 34
  · rw [if_pos h34]
    obtain ⟨r, c1, j1, w1, m1, n1, e1, e2, I1⟩ := k_judge (j := j) (n := n) I
    rw [cV0, e1, bd_eq, cV75, e2, bd_eq, if_pos rfl]
    exact go c1 j1 w1 m1 n1 I1
  rw [if_neg h34]
  by_cases h35 : v = 35
  · rw [if_pos h35, q1, ob_some, q2, ob_some, q3, ob_some, ite_b (fun y => L_law_B1142 N xs f 0 75 95 (nI i) 0 (xs (i + 1)) (xs (i + 2)) y (enc c j w m n))]
    obtain ⟨r, c1, j1, w1, m1, n1, e1, e2, I1⟩ := k_odds (j := j) (n := n) I (xs (i + 1)) (xs (i + 2)) (bI (bx (xs (i + 3))))
    unfold L_law_B1142
    rw [cV0, e1, bd_eq, q1, ob_some, q2, ob_some, q3, ob_some, ite_b (fun y => L_law_B1172 N xs f 0 75 95 (nI i) r 75 (xs (i + 1)) (xs (i + 2)) y (enc c1 j1 w1 m n))]
    unfold L_law_B1172
    rw [cV75, e2, bd_eq, if_pos (lgc_rf r)]
    exact go c1 j1 w1 m1 n1 I1
  rw [if_neg h35]
  by_cases h36 : v = 36
  · rw [if_pos h36, q1, ob_some, q2, ob_some, ite_b (fun y => L_law_B1202 N xs f 0 75 95 (nI i) 0 (xs (i + 1)) y (enc c j w m n))]
    obtain ⟨r, c1, j1, w1, m1, n1, e1, e2, I1⟩ := k_mean (j := j) (n := n) I (xs (i + 1)) (bI (bx (xs (i + 2))))
    unfold L_law_B1202
    rw [cV0, e1, bd_eq, q1, ob_some, q2, ob_some, ite_b (fun y => L_law_B1226 N xs f 0 75 95 (nI i) r 75 (xs (i + 1)) y (enc c1 j1 w1 m n))]
    unfold L_law_B1226
    rw [cV75, e2, bd_eq, if_pos (lgc_rf r)]
    exact go c1 j1 w1 m1 n1 I1
  rw [if_neg h36]
  by_cases h37 : v = 37
  · rw [if_pos h37]
    obtain ⟨r, c1, j1, w1, m1, n1, e1, e2, I1⟩ := k_dearest (j := j) (n := n) I
    rw [cV0, e1, bd_eq, cV75, e2, bd_eq, if_pos rfl]
    exact go c1 j1 w1 m1 n1 I1
  rw [if_neg h37]
  by_cases h38 : v = 38
  · rw [if_pos h38, q1, ob_some, q2, ob_some, ite_b (fun y => L_law_B1269 N xs f 0 75 95 (nI i) 0 (xs (i + 1)) y (enc c j w m n))]
    obtain ⟨r, c1, j1, w1, m1, n1, e1, e2, I1⟩ := k_steals (j := j) (n := n) I (xs (i + 1)) (bx (xs (i + 2))) (bx (xs (i + 3))) (bx (xs (i + 4)))
    unfold L_law_B1269
    rw [q3, ob_some, ite_b (fun y => L_law_B1283 N xs f 0 75 95 (nI i) 0 (xs (i + 1)) (bI (bx (xs (i + 2)))) y (enc c j w m n))]
    unfold L_law_B1283
    rw [q4, ob_some, ite_b (fun y => L_law_B1297 N xs f 0 75 95 (nI i) 0 (xs (i + 1)) (bI (bx (xs (i + 2)))) (bI (bx (xs (i + 3)))) y (enc c j w m n))]
    unfold L_law_B1297
    rw [cV0, e1, bd_eq, q1, ob_some, q2, ob_some, ite_b (fun y => L_law_B1321 N xs f 0 75 95 (nI i) r 75 (xs (i + 1)) y (enc c1 j1 w1 m n))]
    unfold L_law_B1321
    rw [q3, ob_some, ite_b (fun y => L_law_B1335 N xs f 0 75 95 (nI i) r 75 (xs (i + 1)) (bI (bx (xs (i + 2)))) y (enc c1 j1 w1 m n))]
    unfold L_law_B1335
    rw [q4, ob_some, ite_b (fun y => L_law_B1349 N xs f 0 75 95 (nI i) r 75 (xs (i + 1)) (bI (bx (xs (i + 2)))) (bI (bx (xs (i + 3)))) y (enc c1 j1 w1 m n))]
    unfold L_law_B1349
    rw [cV75, e2, bd_eq, if_pos rfl]
    exact go c1 j1 w1 m1 n1 I1
  rw [if_neg h38]
  by_cases h39 : v = 39
  · rw [if_pos h39, q1, ob_some]
    obtain ⟨r, c1, j1, w1, m1, n1, e1, e2, I1⟩ := k_rests (j := j) (n := n) I (xs (i + 1))
    rw [cV0, e1, bd_eq, ob_some, cV75, e2, bd_eq, if_pos rfl]
    exact go c1 j1 w1 m1 n1 I1
  rw [if_neg h39]
  by_cases h40 : v = 40
  · rw [if_pos h40, q1, ob_some]
    obtain ⟨r, c1, j1, w1, m1, n1, e1, e2, I1⟩ := k_rest (j := j) (n := n) I (xs (i + 1))
    rw [cV0, e1, bd_eq, ob_some, cV75, e2, bd_eq, if_pos rfl]
    exact go c1 j1 w1 m1 n1 I1
  rw [if_neg h40]
  by_cases h41 : v = 41
  · rw [if_pos h41, q1, ob_some, q2, ob_some]
    obtain ⟨r, c1, j1, w1, m1, n1, e1, e2, I1⟩ := k_idled (j := j) (n := n) I (xs (i + 1)) (xs (i + 2))
    rw [cV0, e1, bd_eq, ob_some, ob_some, cV75, e2, bd_eq, if_pos rfl]
    exact go c1 j1 w1 m1 n1 I1
  rw [if_neg h41]
  by_cases h42 : v = 42
  · rw [if_pos h42, q1, ob_some, q2, ob_some]
    obtain ⟨r, c1, j1, w1, m1, n1, e1, e2, I1⟩ := k_squareBy (j := j) (n := n) I (xs (i + 1)) (xs (i + 2))
    rw [cV0, e1, bd_eq, ob_some, ob_some, cV75, e2, bd_eq, if_pos rfl]
    exact go c1 j1 w1 m1 n1 I1
  rw [if_neg h42]
  by_cases h43 : v = 43
  · rw [if_pos h43, q1, ob_some, q2, ob_some]
    obtain ⟨r, c1, j1, w1, m1, n1, e1, e2, I1⟩ := k_wrecks (j := j) (n := n) I (xs (i + 1)) (xs (i + 2))
    rw [cV0, e1, bd_eq, ob_some, ob_some, cV75, e2, bd_eq, if_pos rfl]
    exact go c1 j1 w1 m1 n1 I1
  rw [if_neg h43]
  by_cases h44 : v = 44
  · rw [if_pos h44, q1, ob_some]
    obtain ⟨r, c1, j1, w1, m1, n1, e1, e2, I1⟩ := k_attend (j := j) (n := n) I (xs (i + 1))
    rw [cV0, e1, bd_eq, ob_some, cV75, e2, bd_eq, if_pos rfl]
    exact go c1 j1 w1 m1 n1 I1
  rw [if_neg h44]
  by_cases h45 : v = 45
  · rw [if_pos h45, q1, ob_some, q2, ob_some]
    obtain ⟨r, c1, j1, w1, m1, n1, e1, e2, I1⟩ := k_steer (j := j) (n := n) I (xs (i + 1)) (xs (i + 2))
    rw [cV0, e1, bd_eq, ob_some, ob_some, cV75, e2, bd_eq, if_pos rfl]
    exact go c1 j1 w1 m1 n1 I1
  rw [if_neg h45]
  by_cases h46 : v = 46
  · rw [if_pos h46, q1, ob_some, q2, ob_some]
    obtain ⟨r, c1, j1, w1, m1, n1, e1, e2, I1⟩ := k_relieve (j := j) (n := n) I (xs (i + 1)) (xs (i + 2))
    rw [cV0, e1, bd_eq, ob_some, ob_some, cV75, e2, bd_eq, if_pos rfl]
    exact go c1 j1 w1 m1 n1 I1
  rw [if_neg h46]
  by_cases h47 : v = 47
  · rw [if_pos h47]
    obtain ⟨r, c1, j1, w1, m1, n1, e1, e2, I1⟩ := k_undo (j := j) (n := n) I
    rw [cV0, e1, bd_eq, cV75, e2, bd_eq, if_pos rfl]
    exact go c1 j1 w1 m1 n1 I1
  rw [if_neg h47]
  by_cases h48 : v = 48
  · rw [if_pos h48]
    obtain ⟨r, c1, j1, w1, m1, n1, e1, e2, I1⟩ := k_image (j := j) (n := n) I
    rw [cV0, e1, bd_eq, cV75, e2, bd_eq, if_pos rfl]
    exact go c1 j1 w1 m1 n1 I1
  rw [if_neg h48]
  by_cases h49 : v = 49
  · rw [if_pos h49, q1, ob_some]
    obtain ⟨r, c1, j1, w1, m1, n1, e1, e2, I1⟩ := k_back (j := j) (n := n) I (xs (i + 1))
    rw [cV0, e1, bd_eq, ob_some, cV75, e2, bd_eq, if_pos rfl]
    exact go c1 j1 w1 m1 n1 I1
  rw [if_neg h49]
  by_cases h50 : v = 50
  · rw [if_pos h50, q1, ob_some]
    obtain ⟨r, z, m1, n1, e1, e2, e3, e4, I1⟩ := k_led (j := j) (n := n) I (xs (i + 1))
    rw [e1, bd_eq, ob_some, cV75, e2, bd_eq, cV75, e3, bd_eq, if_pos rfl]
    by_cases er : r = 0
    · rw [if_pos er, e4 er, ob_some, if_pos (lgc_rf _)]
      exact go c j w m1 n1 I1
    · rw [if_neg er]
      exact go c j w m1 n1 I1
  rw [if_neg h50]
  by_cases h51 : v = 51
  · rw [if_pos h51, q1, ob_some]
    obtain ⟨r, c1, j1, w1, m1, n1, e1, e2, I1⟩ := k_size (j := j) (n := n) I (xs (i + 1))
    rw [cV0, e1, bd_eq, ob_some, cV75, e2, bd_eq, if_pos rfl]
    exact go c1 j1 w1 m1 n1 I1
  rw [if_neg h51]
  by_cases h52 : v = 52
  · rw [if_pos h52]
    obtain ⟨r, c1, j1, w1, m1, n1, e1, e2, I1⟩ := k_trouble (j := j) (n := n) I
    rw [cV0, e1, bd_eq, cV75, e2, bd_eq, if_pos rfl]
    exact go c1 j1 w1 m1 n1 I1
  rw [if_neg h52]
  exact go c j w m n I
theorem law_loop {N : Nat} (hN : N ≤ 384) {xs : Nat → Int32} : ∀ (q i : Nat) (c : Nat → Nat → Int32) (j : Nat → Nat → Int64) (w : Nat → Nat) (m : Nat → Nat → Int32) (n : Nat → Nat → Int64), INV c w m → i ≤ N + 6 → N + 6 < i + 6 * q → L_law_L23 N xs q 0 75 95 (nI i) (enc c j w m n) = some ()
  | 0, i, _, _, _, _, _, _, h1, h2 => by omega
  | q + 1, i, c, j, w, m, n, I, h1, h2 => by
    show L_law_L23_s N xs (L_law_L23 N xs q) 0 75 95 (nI i) (enc c j w m n) = some ()
    by_cases e : i + 6 ≤ N
    · exact law_step hN e (fun c j w m n I => law_loop hN q (i + 6) c j w m n I (by omega) (by omega)) I
    · unfold L_law_L23_s
      rw [if_pos (by rw [show (6 : Int32) = iI 6 from rfl, nI_iI, nI_iI, Z_sub, Z_lt (by omega) (by omega) (by omega) (by omega)]; omega)]
      rfl
