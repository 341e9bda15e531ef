/-! the reference reads a whole voyage -/
def FG (m m' : Nat → Nat → Int32) : Prop := (∀ y, y ≠ 75 → y ≠ 77 → y ≠ 78 → y ≠ 79 → y ≠ 80 → y ≠ 81 → y ≠ 82 → m' y = m y) ∧ ∀ f, f ≠ 4 → f ≠ 5 → f ≠ 6 → f ≠ 7 → f ≠ 8 → f ≠ 9 → f ≠ 10 → f ≠ 13 → f ≠ 14 → f ≠ 22 → f ≠ 23 → m' 75 f = m 75 f
def GOODm (m m' : Nat → Nat → Int32) (V : Nat → Nat → Nat) : Prop := MV m' 78 V ∧ MK m' 80 0 V (KT V) ∧ MK m' 82 0 V (KT V) ∧ (m' 75 14 = 1 ∧ m' 75 22 = 0 ∧ m' 75 23 = 0 ∧ m' 75 9 = 0) ∧ FG m m'
def MR (m : Nat → Nat → Int32) (o : Out) (r : Int32) (m' : Nat → Nat → Int32) : Prop := match o with
  | Sum.inl (f, x) => r = -1 ∧ ∃ m1, m' = tb m1 4 ∧ FMx m m1 ∧ BF m1 f x
  | Sum.inr (V, _) => r = nI (V 20 2) ∧ GOODm m m' V
section
variable {c : Nat → Nat → Int32} {j : Nat → Nat → Int64} {w : Nat → Nat} {m m' : Nat → Nat → Int32} {n : Nat → Nat → Int64} {T : Nat → Nat} {s p : Nat} {V : Nat → Nat → Nat}
theorem FG.fr {m0 : Nat → Nat → Int32} (a : FMx m0 m) (b : FG m m') : FG m0 m' := ⟨fun y h1 h2 h3 h4 h5 h6 h7 => by rw [b.1 y h1 h2 h3 h4 h5 h6 h7, a.1 y h1 h2 h4 h6], fun f h1 h2 h3 h4 h5 h6 h7 h8 h9 h10 h11 => by rw [b.2 f h1 h2 h3 h4 h5 h6 h7 h8 h9 h10 h11, a.2 f h1 h2 h3 h4 h5 h6 h7 h8]⟩
theorem MR.fr {m0 : Nat → Nat → Int32} {o : Out} {r : Int32} (a : FMx m0 m) (h : MR m o r m') : MR m0 o r m' := by
  match o, h with
  | Sum.inl (f, x), ⟨h1, m1, h2, h3, h4⟩ => exact ⟨h1, m1, h2, a.tr h3, h4⟩
  | Sum.inr (V, x), ⟨h1, h2, h3, h4, h5, h6⟩ => exact ⟨h1, h2, h3, h4, h5, h6.fr a⟩
theorem vF239s {f : Nat → Int32 → Hp → Option (Int32 × Hp)} {N i : Nat} (hN : N ≤ 100) (hi : i ≤ N) (h : m 75 13 = 1) (h8 : m 79 8 = nI N) (ih : i < N → f 75 (nI (i + 1)) (enc c j w m n) = some (-1, enc c j w (tb m 4) n)) : X11_voyage_L239_s f 75 (nI i) (enc c j w m n) = some (-1, enc c j w (tb m 4) n) := by
  unfold X11_voyage_L239_s X11_voyage_B287
  rw [R75_16, ob_some, show aI _ 79 8 = _ from M79 (i := 8) (by decide), ob_some, h8]
  by_cases q : i < N
  · rw [if_neg (by rw [N_le (by omega) (by omega)]; omega), I75_13, ob_some, h, if_neg (by decide), show nI i + 1 = nI (i + 1) from N_add i 1]
    exact ih q
  · rw [if_pos (by rw [N_le (by omega) (by omega)]; omega), I75_13, ob_some, h, if_neg (by decide), cV75, m_no, bd_eq]
theorem vF239 {N : Nat} (hN : N ≤ 100) (h : m 75 13 = 1) (h8 : m 79 8 = nI N) : X11_voyage_L239 5000 75 0 (enc c j w m n) = some (-1, enc c j w (tb m 4) n) := by
  refine loop_up (z := fun _ _ _ => none) (s := X11_voyage_L239_s) N (fun i f => f 75 (nI i) (enc c j w m n) = some (-1, enc c j w (tb m 4) n)) ?_ ?_ 5000 0 (Nat.zero_le _) (by omega)
  · intro i f hi ih; exact vF239s hN (by omega) h h8 fun _ => ih
  · intro f; exact vF239s hN (Nat.le_refl _) h h8 fun q => absurd q (by omega)
theorem vF186s {f : Nat → Int32 → Hp → Option (Int32 × Hp)} {N N' i : Nat} (hN : N ≤ 100) (hN' : N' ≤ 100) (hi : i ≤ N) (h : m 75 13 = 1) (h5 : m 79 5 = nI N) (h8 : m 79 8 = nI N') (ih : i < N → f 75 (nI (i + 1)) (enc c j w m n) = some (-1, enc c j w (tb m 4) n)) : X11_voyage_L186_s f 75 (nI i) (enc c j w m n) = some (-1, enc c j w (tb m 4) n) := by
  unfold X11_voyage_L186_s X11_voyage_B231
  rw [R75_16, ob_some, show aI _ 79 5 = _ from M79 (i := 5) (by decide), ob_some, h5]
  by_cases q : i < N
  · rw [if_neg (by rw [N_le (by omega) (by omega)]; omega), I75_13, ob_some, h, if_neg (by decide), show nI i + 1 = nI (i + 1) from N_add i 1]
    exact ih q
  · rw [if_pos (by rw [N_le (by omega) (by omega)]; omega), vF239 hN' h h8]
theorem vF184 {N N' : Nat} (hN : N ≤ 100) (hN' : N' ≤ 100) (h : m 75 13 = 1) (h5 : m 79 5 = nI N) (h8 : m 79 8 = nI N') : X11_voyage_B184 75 (enc c j w m n) = some (-1, enc c j w (tb m 4) n) := by
  refine loop_up (z := fun _ _ _ => none) (s := X11_voyage_L186_s) N (fun i f => f 75 (nI i) (enc c j w m n) = some (-1, enc c j w (tb m 4) n)) ?_ ?_ 5000 0 (Nat.zero_le _) (by omega)
  · intro i f hi ih; exact vF186s hN hN' (by omega) h h5 h8 fun _ => ih
  · intro f; exact vF186s hN hN' (Nat.le_refl _) h h5 h8 fun q => absurd q (by omega)
theorem vF148 {N N' : Nat} (hN : N ≤ 100) (hN' : N' ≤ 100) (h : m 75 13 = 1) (h5 : m 79 5 = nI N) (h8 : m 79 8 = nI N') : X11_voyage_B148 75 (enc c j w m n) = some (-1, enc c j w (tb m 4) n) := by
  unfold X11_voyage_B148
  rw [I75_13, ob_some, h, if_neg (by decide), vF184 hN hN' h h5 h8]
theorem vF125 {N N' : Nat} (hN : N ≤ 100) (hN' : N' ≤ 100) (h : m 75 13 = 1) (h5 : m 79 5 = nI N) (h8 : m 79 8 = nI N') : X11_voyage_B125 75 (enc c j w m n) = some (-1, enc c j w (tb m 4) n) := by
  unfold X11_voyage_B125
  rw [I75_13, ob_some, h, if_neg (by decide), vF148 hN hN' h h5 h8]
theorem MV_of (D : MDt m T V) (g : GP T V) (h : ∀ x, x < 164 → m' 78 x = m 79 x) : MV m' 78 V := by
  obtain ⟨⟨d0, d1, d10, d11⟩, d5, -, d7, -, -, -⟩ := D
  have C : ∀ t, t < 7 → V 20 t ≤ cap t := g.1
  have X : ∀ t, t < 7 → ∀ i, i < V 20 t → ∀ q, q < mw t → m' 78 (mb t + mw t * i + q) = nI (mcol V t q i) := fun t ht i hi q hq => by
    have := bid_lt ht (bid_ok ht (Nat.lt_of_lt_of_le hi (C t ht)) hq)
    rw [h _ (by omega)]; exact d7 t ht i hi q hq
  refine ⟨⟨by rw [h _ (by omega)]; exact d0, by rw [h _ (by omega)]; exact d1, by rw [h _ (by omega)]; exact d10, by rw [h _ (by omega)]; exact d11⟩, fun t ht => by rw [h _ (by omega)]; exact d5 t ht, fun i hi => ⟨X 0 (by omega) i hi 0 (by decide), X 0 (by omega) i hi 1 (by decide)⟩, fun i hi => ?_, fun i hi => ⟨X 2 (by omega) i hi 0 (by decide), X 2 (by omega) i hi 1 (by decide)⟩, fun i hi => ?_, fun i hi => ?_, fun i hi => ⟨X 5 (by omega) i hi 0 (by decide), X 5 (by omega) i hi 1 (by decide)⟩, fun i hi => ?_⟩
  · have := X 1 (by omega) i hi 0 (by decide)
    rw [show mb 1 + mw 1 * i + 0 = 22 + i by show 22 + 1 * i + 0 = _; omega] at this; exact this
  · have := X 3 (by omega) i hi 0 (by decide)
    rw [show mb 3 + mw 3 * i + 0 = 50 + i by show 50 + 1 * i + 0 = _; omega] at this; exact this
  · have := g.2.2.2.2.2.2.2.2.2.2.1 i hi
    exact ⟨V 17 i, V 18 i, this.1, this.2.1, X 4 (by omega) i hi 0 (by decide), X 4 (by omega) i hi 1 (by decide), this.2.2⟩
  · have := g.2.2.2.2.2.2.2.2.2.2.2.2.1 i hi
    exact ⟨V 21 i, V 22 i, this.2.1, this.2.2.1, X 6 (by omega) i hi 0 (by decide), X 6 (by omega) i hi 1 (by decide), X 6 (by omega) i hi 2 (by decide), this.2.2.2⟩
theorem MK_of (D : MDt m T V) (g : GP T V) {a : Nat} (h : ∀ x, x < 25 → m' a x = m 81 x) : MK m' a 0 V (KT V) := by
  obtain ⟨-, -, -, -, d8, d9, -⟩ := D
  have C := g.1 2 (by decide)
  have C' : cap 2 = 12 := rfl
  refine ⟨fun k hk => ⟨?_, ?_⟩, 0, by decide, ?_, fun k hk => ?_⟩
  · rw [Nat.zero_add, h k (by omega)]; exact (d8 k hk).1
  · rw [Nat.zero_add, h _ (by omega)]; exact (d8 k hk).2
  · rw [Nat.zero_add, h 24 (by omega)]; exact d9
  · rw [Nat.zero_testBit]; rfl
theorem v_tail (J : JT m T s p) (D : MDt m T V) (g : GP T V) : ∃ m', (∀ f, X11_voyage_L239_s f 75 (nI (V 20 6)) (enc c j w m n) = some (nI (V 20 2), enc c j w m' n)) ∧ GOODm m m' V := by
  have C6 := g.1 6 (by decide)
  have C6' : cap 6 = 3 := rfl
  obtain ⟨m1, e1, f1, g1, -⟩ := m_copy (c := c) (j := j) (w := w) (m := m) (n := n) (a := 79) (o := 0) (b := 78) (p := 0) (q := 164) (la := 164) (lb := 164) rfl rfl (by decide) (by decide) (by decide) (by decide) (by decide) (by decide) (by decide)
  obtain ⟨m2, e2, f2, g2, -⟩ := m_copy (c := c) (j := j) (w := w) (m := m1) (n := n) (a := 81) (o := 0) (b := 80) (p := 0) (q := 25) (la := 25) (lb := 25) rfl rfl (by decide) (by decide) (by decide) (by decide) (by decide) (by decide) (by decide)
  obtain ⟨m3, e3, f3, g3, -⟩ := m_copy (c := c) (j := j) (w := w) (m := m2) (n := n) (a := 81) (o := 0) (b := 82) (p := 0) (q := 25) (la := 25) (lb := 25) rfl rfl (by decide) (by decide) (by decide) (by decide) (by decide) (by decide) (by decide)
  have x78 : ∀ x, x < 164 → m3 78 x = m 79 x := fun x hx => by rw [f3 78 (by decide), f2 78 (by decide)]; have := g1 x hx; rw [Nat.zero_add] at this; exact this
  have x80 : ∀ x, x < 25 → m3 80 x = m 81 x := fun x hx => by rw [f3 80 (by decide)]; have := g2 x hx; rw [Nat.zero_add, f1 81 (by decide)] at this; exact this
  have x82 : ∀ x, x < 25 → m3 82 x = m 81 x := fun x hx => by have := g3 x hx; rw [Nat.zero_add, f2 81 (by decide), f1 81 (by decide)] at this; exact this
  have x75 : m3 75 = m 75 := by rw [f3 75 (by decide), f2 75 (by decide), f1 75 (by decide)]
  have o3 : ∀ y, y ≠ 78 → y ≠ 80 → y ≠ 82 → m3 y = m y := fun y h1 h2 h3 => by rw [f3 y h3, f2 y h2, f1 y h1]
  refine ⟨va_up (va_up (va_up m3 75 (upd (m3 75) 14 1)) 75 (upd (va_up m3 75 (upd (m3 75) 14 1) 75) 22 0)) 75 (upd (va_up (va_up m3 75 (upd (m3 75) 14 1)) 75 (upd (va_up m3 75 (upd (m3 75) 14 1) 75) 22 0) 75) 23 0), fun f => ?_, MV_of D g fun x hx => by rw [w75 (by decide), w75 (by decide), w75 (by decide)]; exact x78 x hx, MK_of D g fun x hx => by rw [w75 (by decide), w75 (by decide), w75 (by decide)]; exact x80 x hx, MK_of D g fun x hx => by rw [w75 (by decide), w75 (by decide), w75 (by decide)]; exact x82 x hx, ⟨by rw [v75 (by decide), v75 (by decide), u75], by rw [v75 (by decide), u75], u75, by rw [v75 (by decide), v75 (by decide), v75 (by decide), x75]; exact J.1.2.2.1.2⟩, fun y h1 _ h3 _ h5 _ h7 => by rw [w75 h1, w75 h1, w75 h1]; exact o3 y h3 h5 h7, fun f h1 h2 h3 h4 h5 h6 h7 h8 h9 h10 h11 => by rw [v75 h11, v75 h10, v75 h9, x75]⟩
  unfold X11_voyage_L239_s
  rw [R75_16, ob_some, show aI _ 79 8 = _ from M79 (i := 8) (by decide), ob_some, show m 79 8 = _ from k_n D (t := 6) (by decide), if_pos (by rw [N_le (by omega) (by omega)]; omega), I75_13, ob_some, J.2.2.2, if_pos rfl, ob_some, R75_15, ob_some, show X11_copy 79 0 78 0 164 _ = _ from e1, ob_some, R75_18, ob_some, R75_17, ob_some, show X11_copy 81 0 80 0 25 _ = _ from e2, ob_some, R75_18, ob_some, R75_19, ob_some, show X11_copy 81 0 82 0 25 _ = _ from e3, ob_some, pZ_1, P75_14, ob_some, P75_22, ob_some, P75_23, ob_some, R75_15, ob_some, show aI _ 78 4 = _ from M78 (i := 4) (by decide), ob_some, w75 (by decide), w75 (by decide), w75 (by decide), x78 4 (by decide), show m 79 4 = _ from k_n D (t := 2) (by decide)]
/-- what the end of the tape says -/
theorem v_late (J : JT m T s p) (D : MDt m T V) (g : GP T V) (h2 : V 20 2 ≠ 0) : ∃ r m', X11_voyage_B184 75 (enc c j w m n) = some (r, enc c j w m' n) ∧ MR m (if latB V then .bad 7 (stp T s p) else .ok V (nxq T s p)) r m' := by
  have C2 := g.1 2 (by decide)
  have C3 := g.1 3 (by decide)
  have C6 := g.1 6 (by decide)
  have C2' : cap 2 = 12 := rfl
  have C3' : cap 3 = 4 := rfl
  have C6' : cap 6 = 3 := rfl
  have c4 : m 79 4 = nI (V 20 2) := k_n D (t := 2) (by decide)
  have c5 : m 79 5 = nI (V 20 3) := k_n D (t := 3) (by decide)
  have c8 : m 79 8 = nI (V 20 6) := k_n D (t := 6) (by decide)
  obtain ⟨m1, e1, q1, b1⟩ := m_wrong0 (c := c) (j := j) (w := w) (n := n) J.2.2.2 (f := 7) J.2.1.1
  have o1 : m1 79 = m 79 := q1.1 79 (by decide) (by decide)
  have c5' : m1 79 5 = nI (V 20 3) := by rw [o1]; exact c5
  have c8' : m1 79 8 = nI (V 20 6) := by rw [o1]; exact c8
  have bad : (∃ r m', some (-1, enc c j w (tb m1 4) n) = some (r, enc c j w m' n) ∧ MR m (.bad 7 (stp T s p)) r m') := ⟨_, _, rfl, rfl, m1, rfl, q1.x, b1⟩
  -- the loop over what was found
  have L : ∃ r m', X11_voyage_L239 5000 75 0 (enc c j w m n) = some (r, enc c j w m' n) ∧ MR m (if (∃ i, i < V 20 6 ∧ V 20 2 < V 9 i) then .bad 7 (stp T s p) else .ok V (nxq T s p)) r m' := by
    obtain ⟨f1, f2, f3⟩ := fdx_ok (fun i => decide (V 20 2 < V 9 i)) (V 20 6)
    have step : ∀ (f : Nat → Int32 → Hp → Option (Int32 × Hp)) i, i < V 20 6 → X11_voyage_L239_s f 75 (nI i) (enc c j w m n) = f 75 (nI (i + 1)) (enc c j w (if V 20 2 < V 9 i then m1 else m) n) := by
      intro f i hi
      have := g.2.2.2.2.2.2.2.2.2.2.2.2.1 i hi
      unfold X11_voyage_L239_s X11_voyage_B287
      rw [R75_16, ob_some, show aI _ 79 8 = _ from M79 (i := 8) (by decide), ob_some, c8, if_neg (by rw [N_le (by omega) (by omega)]; omega), I75_13, ob_some, J.2.2.2, if_pos rfl, ob_some, show (74 : Int32) + 3 * nI i = nI (74 + 3 * i) from IX3 74 i, M79 (by omega), ob_some, ob_some, show aI _ 79 4 = _ from M79 (i := 4) (by decide), ob_some, k_cF D hi, c4, show nI i + 1 = nI (i + 1) from N_add i 1]
      by_cases y : V 20 2 < V 9 i
      · rw [if_neg (by rw [N_le (by omega) (by omega)]; omega), I75_4, ob_some, cVv75, show X11_wrong 75 7 _ _ = _ from e1, ob_some, if_pos y]
      · rw [if_pos (by rw [N_le (by omega) (by omega)]; omega), if_neg y]
    by_cases z : ∃ i, i < V 20 6 ∧ V 20 2 < V 9 i
    · rw [if_pos z]
      have fl : fdx (fun i => decide (V 20 2 < V 9 i)) (V 20 6) < V 20 6 := by
        obtain ⟨k, hk, ek⟩ := z
        rcases Nat.lt_or_ge (fdx (fun i => decide (V 20 2 < V 9 i)) (V 20 6)) (V 20 6) with a | a
        · exact a
        · exact absurd ek (of_decide_eq_false (f2 k (by omega)))
      have E : X11_voyage_L239 5000 75 0 (enc c j w m n) = some (-1, enc c j w (tb m1 4) n) := by
        refine (loop_up (z := fun _ _ _ => none) (s := X11_voyage_L239_s) (V 20 6) (fun i f => f 75 (nI i) (enc c j w m1 n) = some (-1, enc c j w (tb m1 4) n) ∧ (i ≤ fdx (fun i => decide (V 20 2 < V 9 i)) (V 20 6) → f 75 (nI i) (enc c j w m n) = some (-1, enc c j w (tb m1 4) n))) ?_ ?_ 5000 0 (Nat.zero_le _) (by omega)).2 (Nat.zero_le _)
        · intro i f hi ih
          refine ⟨vF239s (N := V 20 6) (by omega) (by omega) b1.1 c8' fun _ => ih.1, fun hle => ?_⟩
          rw [step f i hi]
          by_cases y : i = fdx (fun i => decide (V 20 2 < V 9 i)) (V 20 6)
          · rw [if_pos (by rw [y]; exact of_decide_eq_true (f3 fl))]; exact ih.1
          · rw [if_neg (of_decide_eq_false (f2 i (by omega)))]; exact ih.2 (by omega)
        · intro f
          exact ⟨vF239s (N := V 20 6) (by omega) (Nat.le_refl _) b1.1 c8' fun q => absurd q (by omega), fun q => absurd fl (by omega)⟩
      rw [E]; exact bad
    · rw [if_neg z]
      obtain ⟨m', e', r'⟩ := v_tail (c := c) (j := j) (w := w) (n := n) J D g
      refine ⟨_, m', ?_, rfl, r'⟩
      refine loop_up (z := fun _ _ _ => none) (s := X11_voyage_L239_s) (V 20 6) (fun i f => f 75 (nI i) (enc c j w m n) = some (nI (V 20 2), enc c j w m' n)) ?_ ?_ 5000 0 (Nat.zero_le _) (by omega)
      · intro i f hi ih
        rw [step f i hi, if_neg (fun y => z ⟨i, hi, y⟩)]; exact ih
      · intro f
        exact e' f
  have S : ∀ (f : Nat → Int32 → Hp → Option (Int32 × Hp)) i, i < V 20 3 → X11_voyage_L186_s f 75 (nI i) (enc c j w m n) = f 75 (nI (i + 1)) (enc c j w (if V 20 2 < V 5 i then m1 else m) n) := by
    intro f i hi
    have := g.2.2.2.2.2.2.2.2.1 i hi
    unfold X11_voyage_L186_s X11_voyage_B231
    rw [R75_16, ob_some, show aI _ 79 5 = _ from M79 (i := 5) (by decide), ob_some, c5, if_neg (by rw [N_le (by omega) (by omega)]; omega), I75_13, ob_some, J.2.2.2, if_pos rfl, ob_some, show (50 : Int32) + nI i = nI (50 + i) from N_add 50 i, M79 (by omega), ob_some, ob_some, show aI _ 79 4 = _ from M79 (i := 4) (by decide), ob_some, k_cN D hi, c4, show nI i + 1 = nI (i + 1) from N_add i 1]
    by_cases y : V 20 2 < V 5 i
    · rw [if_neg (by rw [N_le (by omega) (by omega)]; omega), I75_4, ob_some, cVv75, show X11_wrong 75 7 _ _ = _ from e1, ob_some, if_pos y]
    · rw [if_pos (by rw [N_le (by omega) (by omega)]; omega), if_neg y]
  by_cases z : ∃ i, i < V 20 3 ∧ V 20 2 < V 5 i
  · have lb : latB V = true := decide_eq_true (Or.inl z)
    rw [if_pos lb]
    obtain ⟨f1, f2, f3⟩ := fdx_ok (fun i => decide (V 20 2 < V 5 i)) (V 20 3)
    have fl : fdx (fun i => decide (V 20 2 < V 5 i)) (V 20 3) < V 20 3 := by
      obtain ⟨k, hk, ek⟩ := z
      rcases Nat.lt_or_ge (fdx (fun i => decide (V 20 2 < V 5 i)) (V 20 3)) (V 20 3) with a | a
      · exact a
      · exact absurd ek (of_decide_eq_false (f2 k (by omega)))
    have E : X11_voyage_B184 75 (enc c j w m n) = some (-1, enc c j w (tb m1 4) n) := by
      refine (loop_up (z := fun _ _ _ => none) (s := X11_voyage_L186_s) (V 20 3) (fun i f => f 75 (nI i) (enc c j w m1 n) = some (-1, enc c j w (tb m1 4) n) ∧ (i ≤ fdx (fun i => decide (V 20 2 < V 5 i)) (V 20 3) → f 75 (nI i) (enc c j w m n) = some (-1, enc c j w (tb m1 4) n))) ?_ ?_ 5000 0 (Nat.zero_le _) (by omega)).2 (Nat.zero_le _)
      · intro i f hi ih
        refine ⟨vF186s (N := V 20 3) (N' := V 20 6) (by omega) (by omega) (by omega) b1.1 c5' c8' fun _ => ih.1, fun hle => ?_⟩
        rw [S f i hi]
        by_cases y : i = fdx (fun i => decide (V 20 2 < V 5 i)) (V 20 3)
        · rw [if_pos (by rw [y]; exact of_decide_eq_true (f3 fl))]; exact ih.1
        · rw [if_neg (of_decide_eq_false (f2 i (by omega)))]; exact ih.2 (by omega)
      · intro f
        exact ⟨vF186s (N := V 20 3) (N' := V 20 6) (by omega) (by omega) (Nat.le_refl _) b1.1 c5' c8' fun q => absurd q (by omega), fun q => absurd fl (by omega)⟩
    rw [E]; exact bad
  · have E : X11_voyage_B184 75 (enc c j w m n) = X11_voyage_L239 5000 75 0 (enc c j w m n) := by
      refine loop_up (z := fun _ _ _ => none) (s := X11_voyage_L186_s) (V 20 3) (fun i f => f 75 (nI i) (enc c j w m n) = X11_voyage_L239 5000 75 0 (enc c j w m n)) ?_ ?_ 5000 0 (Nat.zero_le _) (by omega)
      · intro i f hi ih
        rw [S f i hi, if_neg (fun y => z ⟨i, hi, y⟩)]; exact ih
      · intro f
        unfold X11_voyage_L186_s
        rw [R75_16, ob_some, show aI _ 79 5 = _ from M79 (i := 5) (by decide), ob_some, c5, if_pos (by rw [N_le (by omega) (by omega)]; omega)]
    rw [E]
    by_cases z' : ∃ i, i < V 20 6 ∧ V 20 2 < V 9 i
    · rw [if_pos z'] at L
      rw [if_pos (show latB V = true from decide_eq_true (Or.inr z'))]; exact L
    · rw [if_neg z'] at L
      rw [if_neg (show ¬ latB V = true from fun y => (of_decide_eq_true y).elim z z')]; exact L
end
