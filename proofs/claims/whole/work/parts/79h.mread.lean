/-! the reference reads any line -/
section
variable {c : Nat → Nat → Int32} {j : Nat → Nat → Int64} {w : Nat → Nat} {m m' : Nat → Nat → Int32} {n : Nat → Nat → Int64} {T : Nat → Nat} {s p : Nat} {V : Nat → Nat → Nat} {F : Hp → Option Hp}
theorem mb_no (J : JT m T s p) {k : Nat} (hk : k < 44) (z : ¬ isW T s k p = true) (x : Int32) : X11_begins 75 k x (enc c j w m n) = some (0, enc c j w m n) := by
  unfold X11_begins
  rw [cV75, m_isF J hk z, bd_eq, if_pos rfl, rZ_0]
theorem mb_ok (J : JT m T s p) {k : Nat} (hk : k < 44) (z : isW T s k p = true) (h9 : m 79 9 = nI 1) : ∃ m', X11_begins 75 k 1 (enc c j w m n) = some (1, enc c j w m' n) ∧ QM m m' ∧ JT m' T s (nxq T s p) := by
  obtain ⟨m1, e1, q1, J1⟩ := m_pass (c := c) (j := j) (w := w) (n := n) J
  refine ⟨m1, ?_, q1, J1⟩
  unfold X11_begins X11_begins_B23 X11_begins_B43
  rw [cV75, m_isT J hk z, bd_eq, if_neg (by decide), if_neg (by decide), R75_16, ob_some, show aI _ 79 9 = _ from M79 (i := 9) (by decide), ob_some, h9, if_neg (by decide), cVv75, e1, ob_some, rZ_1]
theorem mb_6 (J : JT m T s p) {k : Nat} (hk : k < 44) (z : isW T s k p = true) (h9 : m 79 9 = 0) : ∃ m', X11_begins 75 k 1 (enc c j w m n) = some (1, enc c j w m' n) ∧ QB m m' ∧ BF m' 6 (stp T s p) := by
  obtain ⟨m1, e1, q1, b1⟩ := m_wrong0 (c := c) (j := j) (w := w) (n := n) J.2.2.2 (f := 6) J.2.1.1
  refine ⟨m1, ?_, q1, b1⟩
  unfold X11_begins X11_begins_B23 X11_begins_B43
  rw [cV75, m_isT J hk z, bd_eq, if_neg (by decide), if_neg (by decide), R75_16, ob_some, show aI _ 79 9 = _ from M79 (i := 9) (by decide), ob_some, h9, if_pos rfl, I75_4, ob_some, cVv75, show X11_wrong 75 6 _ _ = _ from e1, ob_some, cVv75, mF_pass b1.1, ob_some, rZ_1]
theorem mb_5 (J : JT m T s p) {k : Nat} (hk : k < 44) (z : isW T s k p = true) (h9 : m 79 9 = nI 1) : ∃ m', X11_begins 75 k 0 (enc c j w m n) = some (1, enc c j w m' n) ∧ QB m m' ∧ BF m' 5 (stp T s p) := by
  obtain ⟨m1, e1, q1, b1⟩ := m_wrong0 (c := c) (j := j) (w := w) (n := n) J.2.2.2 (f := 5) J.2.1.1
  refine ⟨m1, ?_, q1, b1⟩
  unfold X11_begins X11_begins_B23 X11_begins_B43
  rw [cV75, m_isT J hk z, bd_eq, if_neg (by decide), if_pos rfl, I75_4, ob_some, cVv75, show X11_wrong 75 5 _ _ = _ from e1, ob_some, R75_16, ob_some, show aI _ 79 9 = _ from M79 (i := 9) (by decide), ob_some, q1.1 79 (by decide) (by decide), h9, if_neg (by decide), cVv75, mF_pass b1.1, ob_some, rZ_1]
theorem mo_q {F' : Hp → Option Hp} {m1 : Nat → Nat → Int32} {o : Out} (q : QM m m1) (h : MO T s F' c j w m1 n o) (e : F (enc c j w m n) = (F' (enc c j w m1 n)).bind fun h => some h) : MO T s F c j w m n o := by
  have o9 : m1 79 = m 79 := q.1 79 (by decide) (by decide)
  match o, h with
  | Sum.inl (f, x), ⟨m', a, b, d, d5, d8⟩ => exact ⟨m', by rw [e, a]; rfl, q.x.tr b, d, by rw [d5, o9], by rw [d8, o9]⟩
  | Sum.inr (V, x), ⟨m', a, b, d⟩ => exact ⟨m', by rw [e, a]; rfl, q.x.tr b, d⟩
theorem mo_eq {F' : Hp → Option Hp} {o : Out} (h : MO T s F' c j w m n o) (e : F (enc c j w m n) = F' (enc c j w m n)) : MO T s F c j w m n o := by
  match o, h with
  | Sum.inl (f, x), ⟨m', a, b⟩ => exact ⟨m', by rw [e, a], b⟩
  | Sum.inr (V, x), ⟨m', a, b⟩ => exact ⟨m', by rw [e, a], b⟩
theorem mF_boy (h : m 75 13 = 1) : X11_boyLine 75 (enc c j w m n) = some (enc c j w m n) := by
  unfold X11_boyLine
  rw [I75_13, ob_some, h, if_neg (by decide)]
theorem mF_off (h : m 75 13 = 1) : X11_officerLine 75 (enc c j w m n) = some (enc c j w m n) := by
  unfold X11_officerLine
  rw [I75_13, ob_some, h, if_neg (by decide)]
theorem mF_wat (h : m 75 13 = 1) : X11_watchLine 75 (enc c j w m n) = some (enc c j w m n) := by
  unfold X11_watchLine
  rw [I75_13, ob_some, h, if_neg (by decide)]
theorem mF_noo (h : m 75 13 = 1) : X11_noonLine 75 (enc c j w m n) = some (enc c j w m n) := by
  unfold X11_noonLine
  rw [I75_13, ob_some, h, if_neg (by decide)]
theorem mF_sho (h : m 75 13 = 1) : X11_shoalLine 75 (enc c j w m n) = some (enc c j w m n) := by
  unfold X11_shoalLine
  rw [I75_13, ob_some, h, if_neg (by decide)]
theorem mF_uns (h : m 75 13 = 1) : X11_unsureLine 75 (enc c j w m n) = some (enc c j w m n) := by
  unfold X11_unsureLine
  rw [I75_13, ob_some, h, if_neg (by decide)]
theorem mF_fou (h : m 75 13 = 1) : X11_foundLine 75 (enc c j w m n) = some (enc c j w m n) := by
  unfold X11_foundLine
  rw [I75_13, ob_some, h, if_neg (by decide)]
theorem lv_boy (J : JT m T s p) (D : MDt m T V) (g : GP T V) (z : isW T s 4 p = true) : MO T s (fun h => if (5 : Int32) ≤ nI (V 20 0) then X11_readLine_B34 75 75 26 0 h else X11_readLine_B34 75 75 26 1 h) c j w m n (if V 20 11 = 0 then .bad 6 (stp T s p) else if cap 0 ≤ V 20 0 then .bad 5 (stp T s p) else lnBoy T s V (nxq T s p)) := by
  have z' : isW T s 26 p = true := z
  have c9 : m 79 9 = nI (V 20 11) := D.2.2.1
  have g3 := g.2.2.1
  have gc := g.1 0 (by decide)
  have hc : cap 0 = 5 := rfl
  by_cases q : V 20 11 = 0
  · rw [if_pos q]
    have q0 := g.2.2.2.1 q 0 (by decide)
    obtain ⟨m1, e1, q1, b1⟩ := mb_6 (c := c) (j := j) (w := w) (n := n) J (by decide) z' (by rw [c9, q]; rfl)
    refine mo_qb ⟨m1, ?_, q1, b1⟩
    show (if (5 : Int32) ≤ nI (V 20 0) then _ else _) = _
    rw [if_neg (by rw [q0]; decide)]
    unfold X11_readLine_B34
    rw [cV75, e1, bd_eq, if_neg (by decide), cVv75, mF_boy b1.1, ob_some]
  · rw [if_neg q]
    have h9 : m 79 9 = nI 1 := by rw [c9, show V 20 11 = 1 by omega]
    by_cases q' : cap 0 ≤ V 20 0
    · rw [if_pos q']
      obtain ⟨m1, e1, q1, b1⟩ := mb_5 (c := c) (j := j) (w := w) (n := n) J (by decide) z' h9
      refine mo_qb ⟨m1, ?_, q1, b1⟩
      show (if (5 : Int32) ≤ nI (V 20 0) then _ else _) = _
      rw [if_pos (by rw [show (5 : Int32) = nI 5 from rfl, N_le (by omega) (by omega)]; omega)]
      unfold X11_readLine_B34
      rw [cV75, e1, bd_eq, if_neg (by decide), cVv75, mF_boy b1.1, ob_some]
    · rw [if_neg q']
      obtain ⟨m1, e1, q1, J1⟩ := mb_ok (c := c) (j := j) (w := w) (n := n) J (by decide) z' h9
      refine mo_q q1 (ml_boy J1 (q1.d D) g (Nat.not_le.mp q')) ?_
      show (if (5 : Int32) ≤ nI (V 20 0) then _ else _) = _
      rw [if_neg (by rw [show (5 : Int32) = nI 5 from rfl, N_le (by omega) (by omega)]; omega)]
      unfold X11_readLine_B34
      rw [cV75, e1, bd_eq, if_neg (by decide), cVv75]
theorem lv_off (J : JT m T s p) (D : MDt m T V) (g : GP T V) (z : isW T s 5 p = true) : MO T s (fun h => if (4 : Int32) ≤ nI (V 20 1) then X11_readLine_B65 75 75 27 0 h else X11_readLine_B65 75 75 27 1 h) c j w m n (if V 20 11 = 0 then .bad 6 (stp T s p) else if cap 1 ≤ V 20 1 then .bad 5 (stp T s p) else lnOff T s V (nxq T s p)) := by
  have z' : isW T s 27 p = true := z
  have c9 : m 79 9 = nI (V 20 11) := D.2.2.1
  have g3 := g.2.2.1
  have gc := g.1 1 (by decide)
  have hc : cap 1 = 4 := rfl
  by_cases q : V 20 11 = 0
  · rw [if_pos q]
    have q0 := g.2.2.2.1 q 1 (by decide)
    obtain ⟨m1, e1, q1, b1⟩ := mb_6 (c := c) (j := j) (w := w) (n := n) J (by decide) z' (by rw [c9, q]; rfl)
    refine mo_qb ⟨m1, ?_, q1, b1⟩
    show (if (4 : Int32) ≤ nI (V 20 1) then _ else _) = _
    rw [if_neg (by rw [q0]; decide)]
    unfold X11_readLine_B65
    rw [cV75, e1, bd_eq, if_neg (by decide), cVv75, mF_off b1.1, ob_some]
  · rw [if_neg q]
    have h9 : m 79 9 = nI 1 := by rw [c9, show V 20 11 = 1 by omega]
    by_cases q' : cap 1 ≤ V 20 1
    · rw [if_pos q']
      obtain ⟨m1, e1, q1, b1⟩ := mb_5 (c := c) (j := j) (w := w) (n := n) J (by decide) z' h9
      refine mo_qb ⟨m1, ?_, q1, b1⟩
      show (if (4 : Int32) ≤ nI (V 20 1) then _ else _) = _
      rw [if_pos (by rw [show (4 : Int32) = nI 4 from rfl, N_le (by omega) (by omega)]; omega)]
      unfold X11_readLine_B65
      rw [cV75, e1, bd_eq, if_neg (by decide), cVv75, mF_off b1.1, ob_some]
    · rw [if_neg q']
      obtain ⟨m1, e1, q1, J1⟩ := mb_ok (c := c) (j := j) (w := w) (n := n) J (by decide) z' h9
      refine mo_q q1 (ml_off J1 (q1.d D) g (Nat.not_le.mp q')) ?_
      show (if (4 : Int32) ≤ nI (V 20 1) then _ else _) = _
      rw [if_neg (by rw [show (4 : Int32) = nI 4 from rfl, N_le (by omega) (by omega)]; omega)]
      unfold X11_readLine_B65
      rw [cV75, e1, bd_eq, if_neg (by decide), cVv75]
theorem lv_wat (J : JT m T s p) (D : MDt m T V) (g : GP T V) (z : isW T s 6 p = true) : MO T s (fun h => if (12 : Int32) ≤ nI (V 20 2) then X11_readLine_B97 75 75 28 0 h else X11_readLine_B97 75 75 28 1 h) c j w m n (if V 20 11 = 0 then .bad 6 (stp T s p) else if cap 2 ≤ V 20 2 then .bad 5 (stp T s p) else lnWat T s V (nxq T s p)) := by
  have z' : isW T s 28 p = true := z
  have c9 : m 79 9 = nI (V 20 11) := D.2.2.1
  have g3 := g.2.2.1
  have gc := g.1 2 (by decide)
  have hc : cap 2 = 12 := rfl
  by_cases q : V 20 11 = 0
  · rw [if_pos q]
    have q0 := g.2.2.2.1 q 2 (by decide)
    obtain ⟨m1, e1, q1, b1⟩ := mb_6 (c := c) (j := j) (w := w) (n := n) J (by decide) z' (by rw [c9, q]; rfl)
    refine mo_qb ⟨m1, ?_, q1, b1⟩
    show (if (12 : Int32) ≤ nI (V 20 2) then _ else _) = _
    rw [if_neg (by rw [q0]; decide)]
    unfold X11_readLine_B97
    rw [cV75, e1, bd_eq, if_neg (by decide), cVv75, mF_wat b1.1, ob_some]
  · rw [if_neg q]
    have h9 : m 79 9 = nI 1 := by rw [c9, show V 20 11 = 1 by omega]
    by_cases q' : cap 2 ≤ V 20 2
    · rw [if_pos q']
      obtain ⟨m1, e1, q1, b1⟩ := mb_5 (c := c) (j := j) (w := w) (n := n) J (by decide) z' h9
      refine mo_qb ⟨m1, ?_, q1, b1⟩
      show (if (12 : Int32) ≤ nI (V 20 2) then _ else _) = _
      rw [if_pos (by rw [show (12 : Int32) = nI 12 from rfl, N_le (by omega) (by omega)]; omega)]
      unfold X11_readLine_B97
      rw [cV75, e1, bd_eq, if_neg (by decide), cVv75, mF_wat b1.1, ob_some]
    · rw [if_neg q']
      obtain ⟨m1, e1, q1, J1⟩ := mb_ok (c := c) (j := j) (w := w) (n := n) J (by decide) z' h9
      refine mo_q q1 (ml_wat J1 (q1.d D) g (Nat.not_le.mp q')) ?_
      show (if (12 : Int32) ≤ nI (V 20 2) then _ else _) = _
      rw [if_neg (by rw [show (12 : Int32) = nI 12 from rfl, N_le (by omega) (by omega)]; omega)]
      unfold X11_readLine_B97
      rw [cV75, e1, bd_eq, if_neg (by decide), cVv75]
theorem lv_noo (J : JT m T s p) (D : MDt m T V) (g : GP T V) (z : isW T s 7 p = true) : MO T s (fun h => if (4 : Int32) ≤ nI (V 20 3) then X11_readLine_B128 75 75 29 0 h else X11_readLine_B128 75 75 29 1 h) c j w m n (if V 20 11 = 0 then .bad 6 (stp T s p) else if cap 3 ≤ V 20 3 then .bad 5 (stp T s p) else lnNoo T s V (nxq T s p)) := by
  have z' : isW T s 29 p = true := z
  have c9 : m 79 9 = nI (V 20 11) := D.2.2.1
  have g3 := g.2.2.1
  have gc := g.1 3 (by decide)
  have hc : cap 3 = 4 := rfl
  by_cases q : V 20 11 = 0
  · rw [if_pos q]
    have q0 := g.2.2.2.1 q 3 (by decide)
    obtain ⟨m1, e1, q1, b1⟩ := mb_6 (c := c) (j := j) (w := w) (n := n) J (by decide) z' (by rw [c9, q]; rfl)
    refine mo_qb ⟨m1, ?_, q1, b1⟩
    show (if (4 : Int32) ≤ nI (V 20 3) then _ else _) = _
    rw [if_neg (by rw [q0]; decide)]
    unfold X11_readLine_B128
    rw [cV75, e1, bd_eq, if_neg (by decide), cVv75, mF_noo b1.1, ob_some]
  · rw [if_neg q]
    have h9 : m 79 9 = nI 1 := by rw [c9, show V 20 11 = 1 by omega]
    by_cases q' : cap 3 ≤ V 20 3
    · rw [if_pos q']
      obtain ⟨m1, e1, q1, b1⟩ := mb_5 (c := c) (j := j) (w := w) (n := n) J (by decide) z' h9
      refine mo_qb ⟨m1, ?_, q1, b1⟩
      show (if (4 : Int32) ≤ nI (V 20 3) then _ else _) = _
      rw [if_pos (by rw [show (4 : Int32) = nI 4 from rfl, N_le (by omega) (by omega)]; omega)]
      unfold X11_readLine_B128
      rw [cV75, e1, bd_eq, if_neg (by decide), cVv75, mF_noo b1.1, ob_some]
    · rw [if_neg q']
      obtain ⟨m1, e1, q1, J1⟩ := mb_ok (c := c) (j := j) (w := w) (n := n) J (by decide) z' h9
      refine mo_q q1 (ml_noo J1 (q1.d D) g (Nat.not_le.mp q')) ?_
      show (if (4 : Int32) ≤ nI (V 20 3) then _ else _) = _
      rw [if_neg (by rw [show (4 : Int32) = nI 4 from rfl, N_le (by omega) (by omega)]; omega)]
      unfold X11_readLine_B128
      rw [cV75, e1, bd_eq, if_neg (by decide), cVv75]
theorem lv_sho (J : JT m T s p) (D : MDt m T V) (g : GP T V) (z : isW T s 8 p = true) : MO T s (fun h => if (6 : Int32) ≤ nI (V 20 4) then X11_readLine_B161 75 75 30 0 h else X11_readLine_B161 75 75 30 1 h) c j w m n (if V 20 11 = 0 then .bad 6 (stp T s p) else if cap 4 ≤ V 20 4 then .bad 5 (stp T s p) else lnSho T s V (nxq T s p)) := by
  have z' : isW T s 30 p = true := z
  have c9 : m 79 9 = nI (V 20 11) := D.2.2.1
  have g3 := g.2.2.1
  have gc := g.1 4 (by decide)
  have hc : cap 4 = 6 := rfl
  by_cases q : V 20 11 = 0
  · rw [if_pos q]
    have q0 := g.2.2.2.1 q 4 (by decide)
    obtain ⟨m1, e1, q1, b1⟩ := mb_6 (c := c) (j := j) (w := w) (n := n) J (by decide) z' (by rw [c9, q]; rfl)
    refine mo_qb ⟨m1, ?_, q1, b1⟩
    show (if (6 : Int32) ≤ nI (V 20 4) then _ else _) = _
    rw [if_neg (by rw [q0]; decide)]
    unfold X11_readLine_B161
    rw [cV75, e1, bd_eq, if_neg (by decide), cVv75, mF_sho b1.1, ob_some]
  · rw [if_neg q]
    have h9 : m 79 9 = nI 1 := by rw [c9, show V 20 11 = 1 by omega]
    by_cases q' : cap 4 ≤ V 20 4
    · rw [if_pos q']
      obtain ⟨m1, e1, q1, b1⟩ := mb_5 (c := c) (j := j) (w := w) (n := n) J (by decide) z' h9
      refine mo_qb ⟨m1, ?_, q1, b1⟩
      show (if (6 : Int32) ≤ nI (V 20 4) then _ else _) = _
      rw [if_pos (by rw [show (6 : Int32) = nI 6 from rfl, N_le (by omega) (by omega)]; omega)]
      unfold X11_readLine_B161
      rw [cV75, e1, bd_eq, if_neg (by decide), cVv75, mF_sho b1.1, ob_some]
    · rw [if_neg q']
      obtain ⟨m1, e1, q1, J1⟩ := mb_ok (c := c) (j := j) (w := w) (n := n) J (by decide) z' h9
      refine mo_q q1 (ml_sho J1 (q1.d D) g (Nat.not_le.mp q')) ?_
      show (if (6 : Int32) ≤ nI (V 20 4) then _ else _) = _
      rw [if_neg (by rw [show (6 : Int32) = nI 6 from rfl, N_le (by omega) (by omega)]; omega)]
      unfold X11_readLine_B161
      rw [cV75, e1, bd_eq, if_neg (by decide), cVv75]
theorem lv_uns (J : JT m T s p) (D : MDt m T V) (g : GP T V) (z : isW T s 9 p = true) : MO T s (fun h => if (4 : Int32) ≤ nI (V 20 5) then X11_readLine_B193 75 75 31 0 h else X11_readLine_B193 75 75 31 1 h) c j w m n (if V 20 11 = 0 then .bad 6 (stp T s p) else if cap 5 ≤ V 20 5 then .bad 5 (stp T s p) else lnUns T s V (nxq T s p)) := by
  have z' : isW T s 31 p = true := z
  have c9 : m 79 9 = nI (V 20 11) := D.2.2.1
  have g3 := g.2.2.1
  have gc := g.1 5 (by decide)
  have hc : cap 5 = 4 := rfl
  by_cases q : V 20 11 = 0
  · rw [if_pos q]
    have q0 := g.2.2.2.1 q 5 (by decide)
    obtain ⟨m1, e1, q1, b1⟩ := mb_6 (c := c) (j := j) (w := w) (n := n) J (by decide) z' (by rw [c9, q]; rfl)
    refine mo_qb ⟨m1, ?_, q1, b1⟩
    show (if (4 : Int32) ≤ nI (V 20 5) then _ else _) = _
    rw [if_neg (by rw [q0]; decide)]
    unfold X11_readLine_B193
    rw [cV75, e1, bd_eq, if_neg (by decide), cVv75, mF_uns b1.1, ob_some]
  · rw [if_neg q]
    have h9 : m 79 9 = nI 1 := by rw [c9, show V 20 11 = 1 by omega]
    by_cases q' : cap 5 ≤ V 20 5
    · rw [if_pos q']
      obtain ⟨m1, e1, q1, b1⟩ := mb_5 (c := c) (j := j) (w := w) (n := n) J (by decide) z' h9
      refine mo_qb ⟨m1, ?_, q1, b1⟩
      show (if (4 : Int32) ≤ nI (V 20 5) then _ else _) = _
      rw [if_pos (by rw [show (4 : Int32) = nI 4 from rfl, N_le (by omega) (by omega)]; omega)]
      unfold X11_readLine_B193
      rw [cV75, e1, bd_eq, if_neg (by decide), cVv75, mF_uns b1.1, ob_some]
    · rw [if_neg q']
      obtain ⟨m1, e1, q1, J1⟩ := mb_ok (c := c) (j := j) (w := w) (n := n) J (by decide) z' h9
      refine mo_q q1 (ml_uns J1 (q1.d D) g (Nat.not_le.mp q')) ?_
      show (if (4 : Int32) ≤ nI (V 20 5) then _ else _) = _
      rw [if_neg (by rw [show (4 : Int32) = nI 4 from rfl, N_le (by omega) (by omega)]; omega)]
      unfold X11_readLine_B193
      rw [cV75, e1, bd_eq, if_neg (by decide), cVv75]
theorem lv_fou (J : JT m T s p) (D : MDt m T V) (g : GP T V) (z : isW T s 10 p = true) : MO T s (fun h => if (3 : Int32) ≤ nI (V 20 6) then X11_readLine_B225 75 75 32 0 h else X11_readLine_B225 75 75 32 1 h) c j w m n (if V 20 11 = 0 then .bad 6 (stp T s p) else if cap 6 ≤ V 20 6 then .bad 5 (stp T s p) else lnFou T s V (nxq T s p)) := by
  have z' : isW T s 32 p = true := z
  have c9 : m 79 9 = nI (V 20 11) := D.2.2.1
  have g3 := g.2.2.1
  have gc := g.1 6 (by decide)
  have hc : cap 6 = 3 := rfl
  by_cases q : V 20 11 = 0
  · rw [if_pos q]
    have q0 := g.2.2.2.1 q 6 (by decide)
    obtain ⟨m1, e1, q1, b1⟩ := mb_6 (c := c) (j := j) (w := w) (n := n) J (by decide) z' (by rw [c9, q]; rfl)
    refine mo_qb ⟨m1, ?_, q1, b1⟩
    show (if (3 : Int32) ≤ nI (V 20 6) then _ else _) = _
    rw [if_neg (by rw [q0]; decide)]
    unfold X11_readLine_B225
    rw [cV75, e1, bd_eq, if_neg (by decide), cVv75, mF_fou b1.1, ob_some]
  · rw [if_neg q]
    have h9 : m 79 9 = nI 1 := by rw [c9, show V 20 11 = 1 by omega]
    by_cases q' : cap 6 ≤ V 20 6
    · rw [if_pos q']
      obtain ⟨m1, e1, q1, b1⟩ := mb_5 (c := c) (j := j) (w := w) (n := n) J (by decide) z' h9
      refine mo_qb ⟨m1, ?_, q1, b1⟩
      show (if (3 : Int32) ≤ nI (V 20 6) then _ else _) = _
      rw [if_pos (by rw [show (3 : Int32) = nI 3 from rfl, N_le (by omega) (by omega)]; omega)]
      unfold X11_readLine_B225
      rw [cV75, e1, bd_eq, if_neg (by decide), cVv75, mF_fou b1.1, ob_some]
    · rw [if_neg q']
      obtain ⟨m1, e1, q1, J1⟩ := mb_ok (c := c) (j := j) (w := w) (n := n) J (by decide) z' h9
      refine mo_q q1 (ml_fou J1 (q1.d D) g (Nat.not_le.mp q')) ?_
      show (if (3 : Int32) ≤ nI (V 20 6) then _ else _) = _
      rw [if_neg (by rw [show (3 : Int32) = nI 3 from rfl, N_le (by omega) (by omega)]; omega)]
      unfold X11_readLine_B225
      rw [cV75, e1, bd_eq, if_neg (by decide), cVv75]
theorem nv_boy (J : JT m T s p) (D : MDt m T V) (z : ¬ isW T s 4 p = true) : (if (5 : Int32) ≤ nI (V 20 0) then X11_readLine_B34 75 75 26 0 (enc c j w m n) else X11_readLine_B34 75 75 26 1 (enc c j w m n)) = if (4 : Int32) ≤ nI (V 20 1) then X11_readLine_B65 75 75 27 0 (enc c j w m n) else X11_readLine_B65 75 75 27 1 (enc c j w m n) := by
  have K : ∀ x, X11_readLine_B34 75 75 26 x (enc c j w m n) = if (4 : Int32) ≤ nI (V 20 1) then X11_readLine_B65 75 75 27 0 (enc c j w m n) else X11_readLine_B65 75 75 27 1 (enc c j w m n) := fun x => by
    have e := mb_no (c := c) (j := j) (w := w) (n := n) J (k := 26) (by decide) z x
    show cV (enc c j w m n) 75 11 (X11_begins 75 26 x (enc c j w m n)) _ = _
    rw [cV75, e, bd_eq, if_pos rfl, R75_16, ob_some, show aI _ 79 3 = _ from M79 (i := 3) (by decide), ob_some, show m 79 3 = _ from k_n D (t := 1) (by decide)]
  rw [K, K, ite_self]
theorem nv_off (J : JT m T s p) (D : MDt m T V) (z : ¬ isW T s 5 p = true) : (if (4 : Int32) ≤ nI (V 20 1) then X11_readLine_B65 75 75 27 0 (enc c j w m n) else X11_readLine_B65 75 75 27 1 (enc c j w m n)) = if (12 : Int32) ≤ nI (V 20 2) then X11_readLine_B97 75 75 28 0 (enc c j w m n) else X11_readLine_B97 75 75 28 1 (enc c j w m n) := by
  have K : ∀ x, X11_readLine_B65 75 75 27 x (enc c j w m n) = if (12 : Int32) ≤ nI (V 20 2) then X11_readLine_B97 75 75 28 0 (enc c j w m n) else X11_readLine_B97 75 75 28 1 (enc c j w m n) := fun x => by
    have e := mb_no (c := c) (j := j) (w := w) (n := n) J (k := 27) (by decide) z x
    show cV (enc c j w m n) 75 11 (X11_begins 75 27 x (enc c j w m n)) _ = _
    rw [cV75, e, bd_eq, if_pos rfl, R75_16, ob_some, show aI _ 79 4 = _ from M79 (i := 4) (by decide), ob_some, show m 79 4 = _ from k_n D (t := 2) (by decide)]
  rw [K, K, ite_self]
theorem nv_wat (J : JT m T s p) (D : MDt m T V) (z : ¬ isW T s 6 p = true) : (if (12 : Int32) ≤ nI (V 20 2) then X11_readLine_B97 75 75 28 0 (enc c j w m n) else X11_readLine_B97 75 75 28 1 (enc c j w m n)) = if (4 : Int32) ≤ nI (V 20 3) then X11_readLine_B128 75 75 29 0 (enc c j w m n) else X11_readLine_B128 75 75 29 1 (enc c j w m n) := by
  have K : ∀ x, X11_readLine_B97 75 75 28 x (enc c j w m n) = if (4 : Int32) ≤ nI (V 20 3) then X11_readLine_B128 75 75 29 0 (enc c j w m n) else X11_readLine_B128 75 75 29 1 (enc c j w m n) := fun x => by
    have e := mb_no (c := c) (j := j) (w := w) (n := n) J (k := 28) (by decide) z x
    show cV (enc c j w m n) 75 11 (X11_begins 75 28 x (enc c j w m n)) _ = _
    rw [cV75, e, bd_eq, if_pos rfl, R75_16, ob_some, show aI _ 79 5 = _ from M79 (i := 5) (by decide), ob_some, show m 79 5 = _ from k_n D (t := 3) (by decide)]
  rw [K, K, ite_self]
theorem nv_noo (J : JT m T s p) (D : MDt m T V) (z : ¬ isW T s 7 p = true) : (if (4 : Int32) ≤ nI (V 20 3) then X11_readLine_B128 75 75 29 0 (enc c j w m n) else X11_readLine_B128 75 75 29 1 (enc c j w m n)) = if (6 : Int32) ≤ nI (V 20 4) then X11_readLine_B161 75 75 30 0 (enc c j w m n) else X11_readLine_B161 75 75 30 1 (enc c j w m n) := by
  have K : ∀ x, X11_readLine_B128 75 75 29 x (enc c j w m n) = if (6 : Int32) ≤ nI (V 20 4) then X11_readLine_B161 75 75 30 0 (enc c j w m n) else X11_readLine_B161 75 75 30 1 (enc c j w m n) := fun x => by
    have e := mb_no (c := c) (j := j) (w := w) (n := n) J (k := 29) (by decide) z x
    show cV (enc c j w m n) 75 11 (X11_begins 75 29 x (enc c j w m n)) _ = _
    rw [cV75, e, bd_eq, if_pos rfl, R75_16, ob_some, show aI _ 79 6 = _ from M79 (i := 6) (by decide), ob_some, show m 79 6 = _ from k_n D (t := 4) (by decide)]
  rw [K, K, ite_self]
theorem nv_sho (J : JT m T s p) (D : MDt m T V) (z : ¬ isW T s 8 p = true) : (if (6 : Int32) ≤ nI (V 20 4) then X11_readLine_B161 75 75 30 0 (enc c j w m n) else X11_readLine_B161 75 75 30 1 (enc c j w m n)) = if (4 : Int32) ≤ nI (V 20 5) then X11_readLine_B193 75 75 31 0 (enc c j w m n) else X11_readLine_B193 75 75 31 1 (enc c j w m n) := by
  have K : ∀ x, X11_readLine_B161 75 75 30 x (enc c j w m n) = if (4 : Int32) ≤ nI (V 20 5) then X11_readLine_B193 75 75 31 0 (enc c j w m n) else X11_readLine_B193 75 75 31 1 (enc c j w m n) := fun x => by
    have e := mb_no (c := c) (j := j) (w := w) (n := n) J (k := 30) (by decide) z x
    show cV (enc c j w m n) 75 11 (X11_begins 75 30 x (enc c j w m n)) _ = _
    rw [cV75, e, bd_eq, if_pos rfl, R75_16, ob_some, show aI _ 79 7 = _ from M79 (i := 7) (by decide), ob_some, show m 79 7 = _ from k_n D (t := 5) (by decide)]
  rw [K, K, ite_self]
theorem nv_uns (J : JT m T s p) (D : MDt m T V) (z : ¬ isW T s 9 p = true) : (if (4 : Int32) ≤ nI (V 20 5) then X11_readLine_B193 75 75 31 0 (enc c j w m n) else X11_readLine_B193 75 75 31 1 (enc c j w m n)) = if (3 : Int32) ≤ nI (V 20 6) then X11_readLine_B225 75 75 32 0 (enc c j w m n) else X11_readLine_B225 75 75 32 1 (enc c j w m n) := by
  have K : ∀ x, X11_readLine_B193 75 75 31 x (enc c j w m n) = if (3 : Int32) ≤ nI (V 20 6) then X11_readLine_B225 75 75 32 0 (enc c j w m n) else X11_readLine_B225 75 75 32 1 (enc c j w m n) := fun x => by
    have e := mb_no (c := c) (j := j) (w := w) (n := n) J (k := 31) (by decide) z x
    show cV (enc c j w m n) 75 11 (X11_begins 75 31 x (enc c j w m n)) _ = _
    rw [cV75, e, bd_eq, if_pos rfl, R75_16, ob_some, show aI _ 79 8 = _ from M79 (i := 8) (by decide), ob_some, show m 79 8 = _ from k_n D (t := 6) (by decide)]
  rw [K, K, ite_self]
theorem nv_fou (J : JT m T s p) (z : ¬ isW T s 10 p = true) : ∃ m', (if (3 : Int32) ≤ nI (V 20 6) then X11_readLine_B225 75 75 32 0 (enc c j w m n) else X11_readLine_B225 75 75 32 1 (enc c j w m n)) = some (enc c j w m' n) ∧ QB m m' ∧ BF m' 1 (stp T s p) := by
  obtain ⟨m1, e1, q1, b1⟩ := m_wrong0 (c := c) (j := j) (w := w) (n := n) J.2.2.2 (f := 1) J.2.1.1
  have K : ∀ x, X11_readLine_B225 75 75 32 x (enc c j w m n) = some (enc c j w m1 n) := fun x => by
    have e := mb_no (c := c) (j := j) (w := w) (n := n) J (k := 32) (by decide) z x
    unfold X11_readLine_B225
    rw [cV75, e, bd_eq, if_pos rfl, I75_4, ob_some, cVv75, show X11_wrong 75 1 _ _ = _ from e1, ob_some]
  exact ⟨m1, by rw [K, K, ite_self], q1, b1⟩
theorem le_boy (z0 : ¬ isW T s 0 p = true) (z : isW T s 4 p = true) : ln T s V p = if V 20 11 = 0 then .bad 6 (stp T s p) else if cap 0 ≤ V 20 0 then .bad 5 (stp T s p) else lnBoy T s V (nxq T s p) := by
  have zb : ¬ bgs T s p = false := by unfold bgs; rw [z]; simp
  unfold ln
  rw [if_neg z0, if_neg zb]
  by_cases q : V 20 11 = 0
  · rw [if_pos q, if_pos q]
  · rw [if_neg q, if_neg q, if_pos z]
theorem le_off (z0 : ¬ isW T s 0 p = true) (z4 : ¬ isW T s 4 p = true) (z : isW T s 5 p = true) : ln T s V p = if V 20 11 = 0 then .bad 6 (stp T s p) else if cap 1 ≤ V 20 1 then .bad 5 (stp T s p) else lnOff T s V (nxq T s p) := by
  have zb : ¬ bgs T s p = false := by unfold bgs; rw [z]; simp
  unfold ln
  rw [if_neg z0, if_neg zb]
  by_cases q : V 20 11 = 0
  · rw [if_pos q, if_pos q]
  · rw [if_neg q, if_neg q, if_neg z4, if_pos z]
theorem le_wat (z0 : ¬ isW T s 0 p = true) (z4 : ¬ isW T s 4 p = true) (z5 : ¬ isW T s 5 p = true) (z : isW T s 6 p = true) : ln T s V p = if V 20 11 = 0 then .bad 6 (stp T s p) else if cap 2 ≤ V 20 2 then .bad 5 (stp T s p) else lnWat T s V (nxq T s p) := by
  have zb : ¬ bgs T s p = false := by unfold bgs; rw [z]; simp
  unfold ln
  rw [if_neg z0, if_neg zb]
  by_cases q : V 20 11 = 0
  · rw [if_pos q, if_pos q]
  · rw [if_neg q, if_neg q, if_neg z4, if_neg z5, if_pos z]
theorem le_noo (z0 : ¬ isW T s 0 p = true) (z4 : ¬ isW T s 4 p = true) (z5 : ¬ isW T s 5 p = true) (z6 : ¬ isW T s 6 p = true) (z : isW T s 7 p = true) : ln T s V p = if V 20 11 = 0 then .bad 6 (stp T s p) else if cap 3 ≤ V 20 3 then .bad 5 (stp T s p) else lnNoo T s V (nxq T s p) := by
  have zb : ¬ bgs T s p = false := by unfold bgs; rw [z]; simp
  unfold ln
  rw [if_neg z0, if_neg zb]
  by_cases q : V 20 11 = 0
  · rw [if_pos q, if_pos q]
  · rw [if_neg q, if_neg q, if_neg z4, if_neg z5, if_neg z6, if_pos z]
theorem le_sho (z0 : ¬ isW T s 0 p = true) (z4 : ¬ isW T s 4 p = true) (z5 : ¬ isW T s 5 p = true) (z6 : ¬ isW T s 6 p = true) (z7 : ¬ isW T s 7 p = true) (z : isW T s 8 p = true) : ln T s V p = if V 20 11 = 0 then .bad 6 (stp T s p) else if cap 4 ≤ V 20 4 then .bad 5 (stp T s p) else lnSho T s V (nxq T s p) := by
  have zb : ¬ bgs T s p = false := by unfold bgs; rw [z]; simp
  unfold ln
  rw [if_neg z0, if_neg zb]
  by_cases q : V 20 11 = 0
  · rw [if_pos q, if_pos q]
  · rw [if_neg q, if_neg q, if_neg z4, if_neg z5, if_neg z6, if_neg z7, if_pos z]
theorem le_uns (z0 : ¬ isW T s 0 p = true) (z4 : ¬ isW T s 4 p = true) (z5 : ¬ isW T s 5 p = true) (z6 : ¬ isW T s 6 p = true) (z7 : ¬ isW T s 7 p = true) (z8 : ¬ isW T s 8 p = true) (z : isW T s 9 p = true) : ln T s V p = if V 20 11 = 0 then .bad 6 (stp T s p) else if cap 5 ≤ V 20 5 then .bad 5 (stp T s p) else lnUns T s V (nxq T s p) := by
  have zb : ¬ bgs T s p = false := by unfold bgs; rw [z]; simp
  unfold ln
  rw [if_neg z0, if_neg zb]
  by_cases q : V 20 11 = 0
  · rw [if_pos q, if_pos q]
  · rw [if_neg q, if_neg q, if_neg z4, if_neg z5, if_neg z6, if_neg z7, if_neg z8, if_pos z]
theorem le_fou (z0 : ¬ isW T s 0 p = true) (z4 : ¬ isW T s 4 p = true) (z5 : ¬ isW T s 5 p = true) (z6 : ¬ isW T s 6 p = true) (z7 : ¬ isW T s 7 p = true) (z8 : ¬ isW T s 8 p = true) (z9 : ¬ isW T s 9 p = true) (z : isW T s 10 p = true) : ln T s V p = if V 20 11 = 0 then .bad 6 (stp T s p) else if cap 6 ≤ V 20 6 then .bad 5 (stp T s p) else lnFou T s V (nxq T s p) := by
  have zb : ¬ bgs T s p = false := by unfold bgs; rw [z]; simp
  unfold ln
  rw [if_neg z0, if_neg zb]
  by_cases q : V 20 11 = 0
  · rw [if_pos q, if_pos q]
  · rw [if_neg q, if_neg q, if_neg z4, if_neg z5, if_neg z6, if_neg z7, if_neg z8, if_neg z9]
theorem le_no (z0 : ¬ isW T s 0 p = true) (z4 : ¬ isW T s 4 p = true) (z5 : ¬ isW T s 5 p = true) (z6 : ¬ isW T s 6 p = true) (z7 : ¬ isW T s 7 p = true) (z8 : ¬ isW T s 8 p = true) (z9 : ¬ isW T s 9 p = true) (z10 : ¬ isW T s 10 p = true) : ln T s V p = .bad 1 (stp T s p) := by
  have zb : bgs T s p = false := by
    unfold bgs
    simp only [Bool.not_eq_true] at z0 z4 z5 z6 z7 z8 z9 z10
    rw [z0, z4, z5, z6, z7, z8, z9, z10]; rfl
  unfold ln
  rw [if_neg z0, if_pos zb]
theorem ml_line (J : JT m T s p) (D : MDt m T V) (g : GP T V) : MO T s (X11_readLine 75) c j w m n (ln T s V p) := by
  have c2 : m 79 2 = nI (V 20 0) := k_n D (t := 0) (by decide)
  have c9 : m 79 9 = nI (V 20 11) := D.2.2.1
  have g3 := g.2.2.1
  by_cases z0 : isW T s 0 p = true
  · unfold ln
    rw [if_pos z0]
    by_cases q : V 20 11 = 0
    · rw [if_pos q]
      refine mo_q (QM.rf m) (ml_voy J D) ?_
      unfold X11_readLine X11_voyageLine
      rw [cV75, m_isT J (k := 22) (by decide) z0, bd_eq, if_neg (by decide), cVv75, R75_16, ob_some, show aI _ 79 9 = _ from M79 (i := 9) (by decide), ob_some, c9, q, if_pos (by decide)]
    · rw [if_neg q]
      obtain ⟨m1, e1, q1, b1⟩ := m_wrong0 (c := c) (j := j) (w := w) (n := n) J.2.2.2 (f := 3) J.2.1.1
      refine mo_qb ⟨m1, ?_, q1, b1⟩
      unfold X11_readLine X11_voyageLine X11_voyageLine_B19
      rw [cV75, m_isT J (k := 22) (by decide) z0, bd_eq, if_neg (by decide), cVv75, R75_16, ob_some, show aI _ 79 9 = _ from M79 (i := 9) (by decide), ob_some, c9, show V 20 11 = 1 by omega, if_neg (by decide), I75_4, ob_some, cVv75, show X11_wrong 75 3 _ _ = _ from e1, ob_some, I75_13, ob_some, b1.1, if_neg (by decide), ob_some]
  · have S : X11_readLine 75 (enc c j w m n) = if (5 : Int32) ≤ nI (V 20 0) then X11_readLine_B34 75 75 26 0 (enc c j w m n) else X11_readLine_B34 75 75 26 1 (enc c j w m n) := by
      unfold X11_readLine
      rw [cV75, m_isF J (k := 22) (by decide) z0, bd_eq, if_pos rfl, R75_16, ob_some, show aI _ 79 2 = _ from M79 (i := 2) (by decide), ob_some, c2]
    by_cases z4 : isW T s 4 p = true
    · rw [le_boy z0 z4]
      exact mo_eq (lv_boy J D g z4) (by rw [S])
    · skip
      by_cases z5 : isW T s 5 p = true
      · rw [le_off z0 z4 z5]
        exact mo_eq (lv_off J D g z5) (by rw [S, nv_boy J D z4])
      · skip
        by_cases z6 : isW T s 6 p = true
        · rw [le_wat z0 z4 z5 z6]
          exact mo_eq (lv_wat J D g z6) (by rw [S, nv_boy J D z4, nv_off J D z5])
        · skip
          by_cases z7 : isW T s 7 p = true
          · rw [le_noo z0 z4 z5 z6 z7]
            exact mo_eq (lv_noo J D g z7) (by rw [S, nv_boy J D z4, nv_off J D z5, nv_wat J D z6])
          · skip
            by_cases z8 : isW T s 8 p = true
            · rw [le_sho z0 z4 z5 z6 z7 z8]
              exact mo_eq (lv_sho J D g z8) (by rw [S, nv_boy J D z4, nv_off J D z5, nv_wat J D z6, nv_noo J D z7])
            · skip
              by_cases z9 : isW T s 9 p = true
              · rw [le_uns z0 z4 z5 z6 z7 z8 z9]
                exact mo_eq (lv_uns J D g z9) (by rw [S, nv_boy J D z4, nv_off J D z5, nv_wat J D z6, nv_noo J D z7, nv_sho J D z8])
              · skip
                by_cases z10 : isW T s 10 p = true
                · rw [le_fou z0 z4 z5 z6 z7 z8 z9 z10]
                  exact mo_eq (lv_fou J D g z10) (by rw [S, nv_boy J D z4, nv_off J D z5, nv_wat J D z6, nv_noo J D z7, nv_sho J D z8, nv_uns J D z9])
                · rw [le_no z0 z4 z5 z6 z7 z8 z9 z10]
                  obtain ⟨m1, e1, q1, b1⟩ := nv_fou (c := c) (j := j) (w := w) (n := n) (V := V) J z10
                  exact mo_qb ⟨m1, by rw [S, nv_boy J D z4, nv_off J D z5, nv_wat J D z6, nv_noo J D z7, nv_sho J D z8, nv_uns J D z9, e1], q1, b1⟩
end
