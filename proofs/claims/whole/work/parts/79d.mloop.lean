/-! the reference reads the lines -/
def FMx (m m' : Nat → Nat → Int32) : Prop := (∀ y, y ≠ 75 → y ≠ 77 → y ≠ 79 → y ≠ 81 → m' y = m y) ∧ ∀ f, f ≠ 4 → f ≠ 5 → f ≠ 6 → f ≠ 7 → f ≠ 8 → f ≠ 9 → f ≠ 10 → f ≠ 13 → m' 75 f = m 75 f
def MO (T : Nat → Nat) (s : Nat) (F : Hp → Option Hp) (c : Nat → Nat → Int32) (j : Nat → Nat → Int64) (w : Nat → Nat) (m : Nat → Nat → Int32) (n : Nat → Nat → Int64) (o : Out) : Prop := match o with
  | Sum.inl (f, q) => ∃ m', F (enc c j w m n) = some (enc c j w m' n) ∧ FMx m m' ∧ BF m' f q ∧ m' 79 5 = m 79 5 ∧ m' 79 8 = m 79 8
  | Sum.inr (V, p) => ∃ m', F (enc c j w m n) = some (enc c j w m' n) ∧ FMx m m' ∧ JT m' T s p ∧ MDt m' T V
section
variable {c : Nat → Nat → Int32} {j : Nat → Nat → Int64} {w : Nat → Nat} {m m' : Nat → Nat → Int32} {n : Nat → Nat → Int64} {T : Nat → Nat} {s p : Nat} {V : Nat → Nat → Nat} {F : Hp → Option Hp}
theorem QB.x (h : QB m m') : FMx m m' := ⟨fun y h1 h2 _ _ => h.1 y h1 h2, h.2⟩
theorem QM.x (h : QM m m') : FMx m m' := h.b.x
theorem FMx.tr {m m1 m2 : Nat → Nat → Int32} (a : FMx m m1) (b : FMx m1 m2) : FMx m m2 := ⟨fun y h1 h2 h3 h4 => by rw [b.1 y h1 h2 h3 h4, a.1 y h1 h2 h3 h4], fun f h1 h2 h3 h4 h5 h6 h7 h8 => by rw [b.2 f h1 h2 h3 h4 h5 h6 h7 h8, a.2 f h1 h2 h3 h4 h5 h6 h7 h8]⟩
theorem FMx.wr (h : ∀ y, y ≠ 79 → y ≠ 81 → m' y = m y) : FMx m m' := ⟨fun y _ _ h3 h4 => h y h3 h4, fun f _ _ _ _ _ _ _ _ => by rw [h 75 (by decide) (by decide)]⟩
theorem JT.wr (h : JT m T s p) (o : ∀ y, y ≠ 79 → y ≠ 81 → m' y = m y) : JT m' T s p := by
  obtain ⟨⟨a1, a2, a3, a4⟩, ⟨b1, b2, b3, b4, b5⟩, h3, h4⟩ := h
  have e := o 75 (by decide) (by decide)
  exact ⟨⟨a1, a2, by rw [e]; exact a3, fun i hi => by rw [o 76 (by decide) (by decide)]; exact a4 i hi⟩, ⟨by rw [e]; exact b1, by rw [e]; exact b2, by rw [e]; exact b3, fun y => by rw [e]; exact b4 y, fun y => by rw [e, o 77 (by decide) (by decide)]; exact b5 y⟩, h3, by rw [e]; exact h4⟩
theorem mo_no {f q : Nat} (h : ∃ m', F (enc c j w m n) = some (enc c j w m' n) ∧ FMx m m' ∧ BF m' f q ∧ m' 79 5 = m 79 5 ∧ m' 79 8 = m 79 8) : MO T s F c j w m n (.bad f q) := h
theorem mo_qb {f q : Nat} (h : ∃ m', F (enc c j w m n) = some (enc c j w m' n) ∧ QB m m' ∧ BF m' f q) : MO T s F c j w m n (.bad f q) := by
  obtain ⟨m', e, q', b⟩ := h
  exact ⟨m', e, q'.x, b, by rw [q'.1 79 (by decide) (by decide)], by rw [q'.1 79 (by decide) (by decide)]⟩
theorem mo_ok (h : ∃ m', F (enc c j w m n) = some (enc c j w m' n) ∧ FMx m m' ∧ JT m' T s p ∧ MDt m' T V) : MO T s F c j w m n (.ok V p) := h
theorem QM.d (h : QM m m') (D : MDt m T V) : MDt m' T V := D.fr (h.1 79 (by decide) (by decide)) (h.1 81 (by decide) (by decide))
theorem k_cN (D : MDt m T V) {i : Nat} (hi : i < V 20 3) : m 79 (50 + i) = nI (V 5 i) := by
  have := D.2.2.2.1 3 (by decide) i hi 0 (by decide)
  rw [show mb 3 + mw 3 * i + 0 = 50 + i by show 50 + 1 * i + 0 = _; omega] at this
  exact this
theorem k_cS0 (D : MDt m T V) {i : Nat} (hi : i < V 20 4) : m 79 (54 + 2 * i) = nI (V 17 i) := D.2.2.2.1 4 (by decide) i hi 0 (by decide)
theorem k_cS1 (D : MDt m T V) {i : Nat} (hi : i < V 20 4) : m 79 (54 + 2 * i + 1) = nI (V 18 i) := D.2.2.2.1 4 (by decide) i hi 1 (by decide)
theorem k_cU (D : MDt m T V) {i : Nat} (hi : i < V 20 5) : m 79 (66 + 2 * i) = nI (V 7 i) := D.2.2.2.1 5 (by decide) i hi 0 (by decide)
theorem k_cF (D : MDt m T V) {i : Nat} (hi : i < V 20 6) : m 79 (74 + 3 * i) = nI (V 9 i) := D.2.2.2.1 6 (by decide) i hi 0 (by decide)
theorem k_n (D : MDt m T V) {t : Nat} (ht : t < 7) : m 79 (2 + t) = nI (V 20 t) := D.2.1 t ht

theorem lpF_noo {x0 : Int32} {f : Nat → Int32 → Int32 → Hp → Option Hp} {N i : Nat} (hN : N ≤ 100) (hi : i ≤ N) (h1 : m 75 13 = 1) (h2 : m 79 5 = nI N) (ih : i < N → f 75 x0 (nI (i + 1)) (enc c j w m n) = some (enc c j w m n)) : X11_noonLine_L25_s f 75 x0 (nI i) (enc c j w m n) = some (enc c j w m n) := by
  unfold X11_noonLine_L25_s X11_noonLine_B64
  rw [R75_16, ob_some, show aI _ 79 5 = _ from M79 (i := 5) (by decide), ob_some, h2]
  by_cases q : i < N
  · rw [if_neg (by rw [N_le (by omega) (by omega)]; omega), I75_13, ob_some, h1, if_neg (by decide), show nI i + 1 = nI (i + 1) from N_add i 1]
    exact ih q
  · rw [if_pos (by rw [N_le (by omega) (by omega)]; omega), cVv75, mF_pass h1, ob_some, I75_13, ob_some, h1, if_neg (by decide)]
theorem lpG_noo {x0 : Int32} {N : Nat} (hN : N ≤ 100) (h1 : m 75 13 = 1) (h2 : m 79 5 = nI N) : X11_noonLine_L25 5000 75 x0 0 (enc c j w m n) = some (enc c j w m n) := by
  refine loop_up (z := fun _ _ _ _ => none) (s := X11_noonLine_L25_s) N (fun i f => f 75 x0 (nI i) (enc c j w m n) = some (enc c j w m n)) ?_ ?_ 5000 0 (Nat.zero_le _) (by omega)
  · intro i f hi ih; exact lpF_noo hN (by omega) h1 h2 fun _ => ih
  · intro f; exact lpF_noo hN (Nat.le_refl _) h1 h2 fun q => absurd q (by omega)
theorem lpN_noo (h : JT m T s p) (D : MDt m T V) (hN : V 20 3 ≤ 100) (hc : V 20 3 < 5) {x : Nat} (hx : x < 1000) (hb : ∀ i, i < V 20 3 → V 5 i < 1000) {f : Nat → Int32 → Int32 → Hp → Option Hp} {i : Nat} (hi : i < V 20 3) (z : ¬ V 5 i = x) : X11_noonLine_L25_s f 75 (nI x) (nI i) (enc c j w m n) = f 75 (nI x) (nI (i + 1)) (enc c j w m n) := by
  unfold X11_noonLine_L25_s X11_noonLine_B64
  have b := hb i hi
  rw [R75_16, ob_some, show aI _ 79 5 = _ from M79 (i := 5) (by decide), ob_some, show m 79 5 = _ from k_n D (t := 3) (by decide), if_neg (by rw [N_le (by omega) (by omega)]; omega), I75_13, ob_some, h.2.2.2, if_pos rfl, ob_some, show (50 : Int32) + nI i = nI (50 + i) from N_add 50 i, M79 (by omega), ob_some, k_cN D hi, if_neg (by rw [N_inj (by omega) (by omega)]; exact z), show nI i + 1 = nI (i + 1) from N_add i 1]
theorem lpB_noo (h : JT m T s p) (D : MDt m T V) (hN : V 20 3 ≤ 100) (hc : V 20 3 < 5) {x : Nat} (hx : x < 1000) (hb : ∀ i, i < V 20 3 → V 5 i < 1000) (z : fDu V 5 (V 20 3) x ≠ 0) : ∃ m', X11_noonLine_L25 5000 75 (nI x) 0 (enc c j w m n) = some (enc c j w m' n) ∧ QB m m' ∧ BF m' 3 (stp T s p) := by
  obtain ⟨m', e, q, b⟩ := m_wrong0 (c := c) (j := j) (w := w) (n := n) h.2.2.2 (f := 3) h.2.1.1
  refine ⟨m', ?_, q, b⟩
  have e5 : m' 79 5 = nI (V 20 3) := by rw [q.1 79 (by decide) (by decide)]; exact k_n D (t := 3) (by decide)
  obtain ⟨⟨k, hk, ek⟩, -⟩ := du1 z
  obtain ⟨f1, f2, f3⟩ := fdx_ok (fun i => decide (V 5 i = x)) (V 20 3)
  have fl : fdx (fun i => decide (V 5 i = x)) (V 20 3) < V 20 3 := by
    rcases Nat.lt_or_ge (fdx (fun i => decide (V 5 i = x)) (V 20 3)) (V 20 3) with a | a
    · exact a
    · exact absurd ek (of_decide_eq_false (f2 k (by omega)))
  have d3 := of_decide_eq_true (f3 fl)
  refine (loop_up (z := fun _ _ _ _ => none) (s := X11_noonLine_L25_s) (V 20 3) (fun i f => f 75 (nI x) (nI i) (enc c j w m' n) = some (enc c j w m' n) ∧ (i ≤ fdx (fun i => decide (V 5 i = x)) (V 20 3) → f 75 (nI x) (nI i) (enc c j w m n) = some (enc c j w m' n))) ?_ ?_ 5000 0 (Nat.zero_le _) (by omega)).2 (Nat.zero_le _)
  · intro i f hi ih
    refine ⟨lpF_noo hN (by omega) b.1 e5 fun _ => ih.1, fun hle => ?_⟩
    by_cases yy : i = fdx (fun i => decide (V 5 i = x)) (V 20 3)
    · have di : V 5 i = x := by rw [yy]; exact d3
      unfold X11_noonLine_L25_s X11_noonLine_B64
      rw [R75_16, ob_some, show aI _ 79 5 = _ from M79 (i := 5) (by decide), ob_some, show m 79 5 = _ from k_n D (t := 3) (by decide), if_neg (by rw [N_le (by omega) (by omega)]; omega), I75_13, ob_some, h.2.2.2, if_pos rfl, ob_some, show (50 : Int32) + nI i = nI (50 + i) from N_add 50 i, M79 (by omega), ob_some, k_cN D hi, if_pos (by rw [di]), I75_4, ob_some, cVv75, show X11_wrong 75 3 _ _ = _ from e, ob_some, show nI i + 1 = nI (i + 1) from N_add i 1]
      exact ih.1
    · rw [lpN_noo h D hN hc hx hb hi (of_decide_eq_false (f2 i (by omega)))]
      exact ih.2 (by omega)
  · intro f
    exact ⟨lpF_noo hN (Nat.le_refl _) b.1 e5 fun q => absurd q (by omega), fun q => absurd fl (by omega)⟩
theorem lpO_noo (h : JT m T s p) (D : MDt m T V) (hN : V 20 3 ≤ 100) (hc : V 20 3 < 5) {x : Nat} (hx : x < 1000) (hb : ∀ i, i < V 20 3 → V 5 i < 1000) (z : fDu V 5 (V 20 3) x = 0) {m' : Nat → Nat → Int32} (E : ∀ f, X11_noonLine_L25_s f 75 (nI x) (nI (V 20 3)) (enc c j w m n) = some (enc c j w m' n)) : X11_noonLine_L25 5000 75 (nI x) 0 (enc c j w m n) = some (enc c j w m' n) := by
  refine loop_up (z := fun _ _ _ _ => none) (s := X11_noonLine_L25_s) (V 20 3) (fun i f => f 75 (nI x) (nI i) (enc c j w m n) = some (enc c j w m' n)) ?_ E 5000 0 (Nat.zero_le _) (by omega)
  intro i f hi ih
  rw [lpN_noo h D hN hc hx hb hi (fun y => du0 z ⟨i, hi, y⟩)]; exact ih
theorem lpF_uns {y0 x0 : Int32} {f : Nat → Int32 → Int32 → Int32 → Hp → Option Hp} {N i : Nat} (hN : N ≤ 100) (hi : i ≤ N) (h1 : m 75 13 = 1) (h2 : m 79 7 = nI N) (ih : i < N → f 75 y0 x0 (nI (i + 1)) (enc c j w m n) = some (enc c j w m n)) : X11_unsureLine_L30_s f 75 y0 x0 (nI i) (enc c j w m n) = some (enc c j w m n) := by
  unfold X11_unsureLine_L30_s X11_unsureLine_B72
  rw [R75_16, ob_some, show aI _ 79 7 = _ from M79 (i := 7) (by decide), ob_some, h2]
  by_cases q : i < N
  · rw [if_neg (by rw [N_le (by omega) (by omega)]; omega), I75_13, ob_some, h1, if_neg (by decide), show nI i + 1 = nI (i + 1) from N_add i 1]
    exact ih q
  · rw [if_pos (by rw [N_le (by omega) (by omega)]; omega), cVv75, mF_pass h1, ob_some, cV75, mF_nm h1, bd_eq, I75_13, ob_some, h1, if_neg (by decide)]
theorem lpG_uns {y0 x0 : Int32} {N : Nat} (hN : N ≤ 100) (h1 : m 75 13 = 1) (h2 : m 79 7 = nI N) : X11_unsureLine_L30 5000 75 y0 x0 0 (enc c j w m n) = some (enc c j w m n) := by
  refine loop_up (z := fun _ _ _ _ _ => none) (s := X11_unsureLine_L30_s) N (fun i f => f 75 y0 x0 (nI i) (enc c j w m n) = some (enc c j w m n)) ?_ ?_ 5000 0 (Nat.zero_le _) (by omega)
  · intro i f hi ih; exact lpF_uns hN (by omega) h1 h2 fun _ => ih
  · intro f; exact lpF_uns hN (Nat.le_refl _) h1 h2 fun q => absurd q (by omega)
theorem lpN_uns {y0 : Int32} (h : JT m T s p) (D : MDt m T V) (hN : V 20 5 ≤ 100) (hc : V 20 5 < 5) {x : Nat} (hx : x < 1000) (hb : ∀ i, i < V 20 5 → V 7 i < 1000) {f : Nat → Int32 → Int32 → Int32 → Hp → Option Hp} {i : Nat} (hi : i < V 20 5) (z : ¬ V 7 i = x) : X11_unsureLine_L30_s f 75 y0 (nI x) (nI i) (enc c j w m n) = f 75 y0 (nI x) (nI (i + 1)) (enc c j w m n) := by
  unfold X11_unsureLine_L30_s X11_unsureLine_B72
  have b := hb i hi
  rw [R75_16, ob_some, show aI _ 79 7 = _ from M79 (i := 7) (by decide), ob_some, show m 79 7 = _ from k_n D (t := 5) (by decide), if_neg (by rw [N_le (by omega) (by omega)]; omega), I75_13, ob_some, h.2.2.2, if_pos rfl, ob_some, show (66 : Int32) + 2 * nI i = nI (66 + 2 * i) from IX 66 i, M79 (by omega), ob_some, k_cU D hi, if_neg (by rw [N_inj (by omega) (by omega)]; exact z), show nI i + 1 = nI (i + 1) from N_add i 1]
theorem lpB_uns {y0 : Int32} (h : JT m T s p) (D : MDt m T V) (hN : V 20 5 ≤ 100) (hc : V 20 5 < 5) {x : Nat} (hx : x < 1000) (hb : ∀ i, i < V 20 5 → V 7 i < 1000) (z : fDu V 7 (V 20 5) x ≠ 0) : ∃ m', X11_unsureLine_L30 5000 75 y0 (nI x) 0 (enc c j w m n) = some (enc c j w m' n) ∧ QB m m' ∧ BF m' 3 (stp T s p) := by
  obtain ⟨m', e, q, b⟩ := m_wrong0 (c := c) (j := j) (w := w) (n := n) h.2.2.2 (f := 3) h.2.1.1
  refine ⟨m', ?_, q, b⟩
  have e5 : m' 79 7 = nI (V 20 5) := by rw [q.1 79 (by decide) (by decide)]; exact k_n D (t := 5) (by decide)
  obtain ⟨⟨k, hk, ek⟩, -⟩ := du1 z
  obtain ⟨f1, f2, f3⟩ := fdx_ok (fun i => decide (V 7 i = x)) (V 20 5)
  have fl : fdx (fun i => decide (V 7 i = x)) (V 20 5) < V 20 5 := by
    rcases Nat.lt_or_ge (fdx (fun i => decide (V 7 i = x)) (V 20 5)) (V 20 5) with a | a
    · exact a
    · exact absurd ek (of_decide_eq_false (f2 k (by omega)))
  have d3 := of_decide_eq_true (f3 fl)
  refine (loop_up (z := fun _ _ _ _ _ => none) (s := X11_unsureLine_L30_s) (V 20 5) (fun i f => f 75 y0 (nI x) (nI i) (enc c j w m' n) = some (enc c j w m' n) ∧ (i ≤ fdx (fun i => decide (V 7 i = x)) (V 20 5) → f 75 y0 (nI x) (nI i) (enc c j w m n) = some (enc c j w m' n))) ?_ ?_ 5000 0 (Nat.zero_le _) (by omega)).2 (Nat.zero_le _)
  · intro i f hi ih
    refine ⟨lpF_uns hN (by omega) b.1 e5 fun _ => ih.1, fun hle => ?_⟩
    by_cases yy : i = fdx (fun i => decide (V 7 i = x)) (V 20 5)
    · have di : V 7 i = x := by rw [yy]; exact d3
      unfold X11_unsureLine_L30_s X11_unsureLine_B72
      rw [R75_16, ob_some, show aI _ 79 7 = _ from M79 (i := 7) (by decide), ob_some, show m 79 7 = _ from k_n D (t := 5) (by decide), if_neg (by rw [N_le (by omega) (by omega)]; omega), I75_13, ob_some, h.2.2.2, if_pos rfl, ob_some, show (66 : Int32) + 2 * nI i = nI (66 + 2 * i) from IX 66 i, M79 (by omega), ob_some, k_cU D hi, if_pos (by rw [di]), I75_4, ob_some, cVv75, show X11_wrong 75 3 _ _ = _ from e, ob_some, show nI i + 1 = nI (i + 1) from N_add i 1]
      exact ih.1
    · rw [lpN_uns h D hN hc hx hb hi (of_decide_eq_false (f2 i (by omega)))]
      exact ih.2 (by omega)
  · intro f
    exact ⟨lpF_uns hN (Nat.le_refl _) b.1 e5 fun q => absurd q (by omega), fun q => absurd fl (by omega)⟩
theorem lpO_uns {y0 : Int32} (h : JT m T s p) (D : MDt m T V) (hN : V 20 5 ≤ 100) (hc : V 20 5 < 5) {x : Nat} (hx : x < 1000) (hb : ∀ i, i < V 20 5 → V 7 i < 1000) (z : fDu V 7 (V 20 5) x = 0) {m' : Nat → Nat → Int32} (E : ∀ f, X11_unsureLine_L30_s f 75 y0 (nI x) (nI (V 20 5)) (enc c j w m n) = some (enc c j w m' n)) : X11_unsureLine_L30 5000 75 y0 (nI x) 0 (enc c j w m n) = some (enc c j w m' n) := by
  refine loop_up (z := fun _ _ _ _ _ => none) (s := X11_unsureLine_L30_s) (V 20 5) (fun i f => f 75 y0 (nI x) (nI i) (enc c j w m n) = some (enc c j w m' n)) ?_ E 5000 0 (Nat.zero_le _) (by omega)
  intro i f hi ih
  rw [lpN_uns h D hN hc hx hb hi (fun y => du0 z ⟨i, hi, y⟩)]; exact ih
theorem lpF_fou {y0 x0 : Int32} {f : Nat → Int32 → Int32 → Int32 → Hp → Option Hp} {N i : Nat} (hN : N ≤ 100) (hi : i ≤ N) (h1 : m 75 13 = 1) (h2 : m 79 8 = nI N) (ih : i < N → f 75 y0 x0 (nI (i + 1)) (enc c j w m n) = some (enc c j w m n)) : X11_foundLine_L31_s f 75 y0 x0 (nI i) (enc c j w m n) = some (enc c j w m n) := by
  unfold X11_foundLine_L31_s X11_foundLine_B73
  rw [R75_16, ob_some, show aI _ 79 8 = _ from M79 (i := 8) (by decide), ob_some, h2]
  by_cases q : i < N
  · rw [if_neg (by rw [N_le (by omega) (by omega)]; omega), I75_13, ob_some, h1, if_neg (by decide), show nI i + 1 = nI (i + 1) from N_add i 1]
    exact ih q
  · rw [if_pos (by rw [N_le (by omega) (by omega)]; omega), cVv75, mF_pass h1, ob_some, cV75, mF_aft h1, bd_eq, cV75, mF_nm h1, bd_eq, I75_13, ob_some, h1, if_neg (by decide)]
theorem lpG_fou {y0 x0 : Int32} {N : Nat} (hN : N ≤ 100) (h1 : m 75 13 = 1) (h2 : m 79 8 = nI N) : X11_foundLine_L31 5000 75 y0 x0 0 (enc c j w m n) = some (enc c j w m n) := by
  refine loop_up (z := fun _ _ _ _ _ => none) (s := X11_foundLine_L31_s) N (fun i f => f 75 y0 x0 (nI i) (enc c j w m n) = some (enc c j w m n)) ?_ ?_ 5000 0 (Nat.zero_le _) (by omega)
  · intro i f hi ih; exact lpF_fou hN (by omega) h1 h2 fun _ => ih
  · intro f; exact lpF_fou hN (Nat.le_refl _) h1 h2 fun q => absurd q (by omega)
theorem lpN_fou {y0 : Int32} (h : JT m T s p) (D : MDt m T V) (hN : V 20 6 ≤ 100) (hc : V 20 6 < 4) {x : Nat} (hx : x < 1000) (hb : ∀ i, i < V 20 6 → V 9 i < 1000) {f : Nat → Int32 → Int32 → Int32 → Hp → Option Hp} {i : Nat} (hi : i < V 20 6) (z : ¬ V 9 i = x) : X11_foundLine_L31_s f 75 y0 (nI x) (nI i) (enc c j w m n) = f 75 y0 (nI x) (nI (i + 1)) (enc c j w m n) := by
  unfold X11_foundLine_L31_s X11_foundLine_B73
  have b := hb i hi
  rw [R75_16, ob_some, show aI _ 79 8 = _ from M79 (i := 8) (by decide), ob_some, show m 79 8 = _ from k_n D (t := 6) (by decide), if_neg (by rw [N_le (by omega) (by omega)]; omega), I75_13, ob_some, h.2.2.2, if_pos rfl, ob_some, show (74 : Int32) + 3 * nI i = nI (74 + 3 * i) from IX3 74 i, M79 (by omega), ob_some, k_cF D hi, if_neg (by rw [N_inj (by omega) (by omega)]; exact z), show nI i + 1 = nI (i + 1) from N_add i 1]
theorem lpB_fou {y0 : Int32} (h : JT m T s p) (D : MDt m T V) (hN : V 20 6 ≤ 100) (hc : V 20 6 < 4) {x : Nat} (hx : x < 1000) (hb : ∀ i, i < V 20 6 → V 9 i < 1000) (z : fDu V 9 (V 20 6) x ≠ 0) : ∃ m', X11_foundLine_L31 5000 75 y0 (nI x) 0 (enc c j w m n) = some (enc c j w m' n) ∧ QB m m' ∧ BF m' 3 (stp T s p) := by
  obtain ⟨m', e, q, b⟩ := m_wrong0 (c := c) (j := j) (w := w) (n := n) h.2.2.2 (f := 3) h.2.1.1
  refine ⟨m', ?_, q, b⟩
  have e5 : m' 79 8 = nI (V 20 6) := by rw [q.1 79 (by decide) (by decide)]; exact k_n D (t := 6) (by decide)
  obtain ⟨⟨k, hk, ek⟩, -⟩ := du1 z
  obtain ⟨f1, f2, f3⟩ := fdx_ok (fun i => decide (V 9 i = x)) (V 20 6)
  have fl : fdx (fun i => decide (V 9 i = x)) (V 20 6) < V 20 6 := by
    rcases Nat.lt_or_ge (fdx (fun i => decide (V 9 i = x)) (V 20 6)) (V 20 6) with a | a
    · exact a
    · exact absurd ek (of_decide_eq_false (f2 k (by omega)))
  have d3 := of_decide_eq_true (f3 fl)
  refine (loop_up (z := fun _ _ _ _ _ => none) (s := X11_foundLine_L31_s) (V 20 6) (fun i f => f 75 y0 (nI x) (nI i) (enc c j w m' n) = some (enc c j w m' n) ∧ (i ≤ fdx (fun i => decide (V 9 i = x)) (V 20 6) → f 75 y0 (nI x) (nI i) (enc c j w m n) = some (enc c j w m' n))) ?_ ?_ 5000 0 (Nat.zero_le _) (by omega)).2 (Nat.zero_le _)
  · intro i f hi ih
    refine ⟨lpF_fou hN (by omega) b.1 e5 fun _ => ih.1, fun hle => ?_⟩
    by_cases yy : i = fdx (fun i => decide (V 9 i = x)) (V 20 6)
    · have di : V 9 i = x := by rw [yy]; exact d3
      unfold X11_foundLine_L31_s X11_foundLine_B73
      rw [R75_16, ob_some, show aI _ 79 8 = _ from M79 (i := 8) (by decide), ob_some, show m 79 8 = _ from k_n D (t := 6) (by decide), if_neg (by rw [N_le (by omega) (by omega)]; omega), I75_13, ob_some, h.2.2.2, if_pos rfl, ob_some, show (74 : Int32) + 3 * nI i = nI (74 + 3 * i) from IX3 74 i, M79 (by omega), ob_some, k_cF D hi, if_pos (by rw [di]), I75_4, ob_some, cVv75, show X11_wrong 75 3 _ _ = _ from e, ob_some, show nI i + 1 = nI (i + 1) from N_add i 1]
      exact ih.1
    · rw [lpN_fou h D hN hc hx hb hi (of_decide_eq_false (f2 i (by omega)))]
      exact ih.2 (by omega)
  · intro f
    exact ⟨lpF_fou hN (Nat.le_refl _) b.1 e5 fun q => absurd q (by omega), fun q => absurd fl (by omega)⟩
theorem lpO_fou {y0 : Int32} (h : JT m T s p) (D : MDt m T V) (hN : V 20 6 ≤ 100) (hc : V 20 6 < 4) {x : Nat} (hx : x < 1000) (hb : ∀ i, i < V 20 6 → V 9 i < 1000) (z : fDu V 9 (V 20 6) x = 0) {m' : Nat → Nat → Int32} (E : ∀ f, X11_foundLine_L31_s f 75 y0 (nI x) (nI (V 20 6)) (enc c j w m n) = some (enc c j w m' n)) : X11_foundLine_L31 5000 75 y0 (nI x) 0 (enc c j w m n) = some (enc c j w m' n) := by
  refine loop_up (z := fun _ _ _ _ _ => none) (s := X11_foundLine_L31_s) (V 20 6) (fun i f => f 75 y0 (nI x) (nI i) (enc c j w m n) = some (enc c j w m' n)) ?_ E 5000 0 (Nat.zero_le _) (by omega)
  intro i f hi ih
  rw [lpN_fou h D hN hc hx hb hi (fun y => du0 z ⟨i, hi, y⟩)]; exact ih
theorem lpF_sho {y0 x0 x1 : Int32} {f : Nat → Int32 → Int32 → Int32 → Int32 → Hp → Option Hp} {N i : Nat} (hN : N ≤ 100) (hi : i ≤ N) (h1 : m 75 13 = 1) (h2 : m 79 6 = nI N) (ih : i < N → f 75 y0 x0 x1 (nI (i + 1)) (enc c j w m n) = some (enc c j w m n)) : X11_shoalLine_L42_s f 75 y0 x0 x1 (nI i) (enc c j w m n) = some (enc c j w m n) := by
  unfold X11_shoalLine_L42_s X11_shoalLine_B104
  rw [R75_16, ob_some, show aI _ 79 6 = _ from M79 (i := 6) (by decide), ob_some, h2]
  by_cases q : i < N
  · rw [if_neg (by rw [N_le (by omega) (by omega)]; omega), I75_13, ob_some, h1, if_neg (by decide), show nI i + 1 = nI (i + 1) from N_add i 1]
    exact ih q
  · rw [if_pos (by rw [N_le (by omega) (by omega)]; omega), cVv75, mF_pass h1, ob_some, I75_13, ob_some, h1, if_neg (by decide)]
theorem lpG_sho {y0 x0 x1 : Int32} {N : Nat} (hN : N ≤ 100) (h1 : m 75 13 = 1) (h2 : m 79 6 = nI N) : X11_shoalLine_L42 5000 75 y0 x0 x1 0 (enc c j w m n) = some (enc c j w m n) := by
  refine loop_up (z := fun _ _ _ _ _ _ => none) (s := X11_shoalLine_L42_s) N (fun i f => f 75 y0 x0 x1 (nI i) (enc c j w m n) = some (enc c j w m n)) ?_ ?_ 5000 0 (Nat.zero_le _) (by omega)
  · intro i f hi ih; exact lpF_sho hN (by omega) h1 h2 fun _ => ih
  · intro f; exact lpF_sho hN (Nat.le_refl _) h1 h2 fun q => absurd q (by omega)
theorem lpN_sho {y0 : Int32} (h : JT m T s p) (D : MDt m T V) (hN : V 20 4 ≤ 100) (hc : V 20 4 < 7) {x y : Nat} (hx : x < 200) (hy : y < 200) (g : GP T V) {f : Nat → Int32 → Int32 → Int32 → Int32 → Hp → Option Hp} {i : Nat} (hi : i < V 20 4) (z : ¬ V 6 i = sqx x y) : X11_shoalLine_L42_s f 75 y0 (nI x) (nI y) (nI i) (enc c j w m n) = f 75 y0 (nI x) (nI y) (nI (i + 1)) (enc c j w m n) := by
  unfold X11_shoalLine_L42_s X11_shoalLine_B104
  have b := g.2.2.2.2.2.2.2.2.2.2.1 i hi
  rw [R75_16, ob_some, show aI _ 79 6 = _ from M79 (i := 6) (by decide), ob_some, show m 79 6 = _ from k_n D (t := 4) (by decide), if_neg (by rw [N_le (by omega) (by omega)]; omega), I75_13, ob_some, h.2.2.2, if_pos rfl, ob_some, show (54 : Int32) + 2 * nI i = nI (54 + 2 * i) from IX 54 i, M79 (by omega), ob_some, k_cS0 D hi, show nI i + 1 = nI (i + 1) from N_add i 1]
  by_cases e : V 17 i = x
  · have e' : ¬ V 18 i = y := fun e' => z (by unfold sqx; rw [b.2.2, e, e'])
    rw [if_pos (by rw [e]), ob_some, show nI (54 + 2 * i) + 1 = nI (54 + 2 * i + 1) from N_add _ 1, M79 (by omega), ob_some, k_cS1 D hi, if_neg (by rw [N_inj (by omega) (by omega)]; exact e')]
  · rw [if_neg (by rw [N_inj (by omega) (by omega)]; exact e)]
theorem lpB_sho {y0 : Int32} (h : JT m T s p) (D : MDt m T V) (hN : V 20 4 ≤ 100) (hc : V 20 4 < 7) {x y : Nat} (hx : x < 200) (hy : y < 200) (g : GP T V) (z : fDu V 6 (V 20 4) (sqx x y) ≠ 0) : ∃ m', X11_shoalLine_L42 5000 75 y0 (nI x) (nI y) 0 (enc c j w m n) = some (enc c j w m' n) ∧ QB m m' ∧ BF m' 3 (stp T s p) := by
  obtain ⟨m', e, q, b⟩ := m_wrong0 (c := c) (j := j) (w := w) (n := n) h.2.2.2 (f := 3) h.2.1.1
  refine ⟨m', ?_, q, b⟩
  have e5 : m' 79 6 = nI (V 20 4) := by rw [q.1 79 (by decide) (by decide)]; exact k_n D (t := 4) (by decide)
  obtain ⟨⟨k, hk, ek⟩, -⟩ := du1 z
  obtain ⟨f1, f2, f3⟩ := fdx_ok (fun i => decide (V 6 i = sqx x y)) (V 20 4)
  have fl : fdx (fun i => decide (V 6 i = sqx x y)) (V 20 4) < V 20 4 := by
    rcases Nat.lt_or_ge (fdx (fun i => decide (V 6 i = sqx x y)) (V 20 4)) (V 20 4) with a | a
    · exact a
    · exact absurd ek (of_decide_eq_false (f2 k (by omega)))
  have d3 := of_decide_eq_true (f3 fl)
  refine (loop_up (z := fun _ _ _ _ _ _ => none) (s := X11_shoalLine_L42_s) (V 20 4) (fun i f => f 75 y0 (nI x) (nI y) (nI i) (enc c j w m' n) = some (enc c j w m' n) ∧ (i ≤ fdx (fun i => decide (V 6 i = sqx x y)) (V 20 4) → f 75 y0 (nI x) (nI y) (nI i) (enc c j w m n) = some (enc c j w m' n))) ?_ ?_ 5000 0 (Nat.zero_le _) (by omega)).2 (Nat.zero_le _)
  · intro i f hi ih
    refine ⟨lpF_sho hN (by omega) b.1 e5 fun _ => ih.1, fun hle => ?_⟩
    by_cases yy : i = fdx (fun i => decide (V 6 i = sqx x y)) (V 20 4)
    · have di : V 6 i = sqx x y := by rw [yy]; exact d3
      unfold X11_shoalLine_L42_s X11_shoalLine_B104
      have b' := g.2.2.2.2.2.2.2.2.2.2.1 i hi
      have dx : V 17 i = x ∧ V 18 i = y := by unfold sqx at di; omega
      rw [R75_16, ob_some, show aI _ 79 6 = _ from M79 (i := 6) (by decide), ob_some, show m 79 6 = _ from k_n D (t := 4) (by decide), if_neg (by rw [N_le (by omega) (by omega)]; omega), I75_13, ob_some, h.2.2.2, if_pos rfl, ob_some, show (54 : Int32) + 2 * nI i = nI (54 + 2 * i) from IX 54 i, M79 (by omega), ob_some, k_cS0 D hi, if_pos (by rw [dx.1]), ob_some, show nI (54 + 2 * i) + 1 = nI (54 + 2 * i + 1) from N_add _ 1, M79 (by omega), ob_some, k_cS1 D hi, if_pos (by rw [dx.2]), I75_4, ob_some, cVv75, show X11_wrong 75 3 _ _ = _ from e, ob_some, show nI i + 1 = nI (i + 1) from N_add i 1]
      exact ih.1
    · rw [lpN_sho h D hN hc hx hy g hi (of_decide_eq_false (f2 i (by omega)))]
      exact ih.2 (by omega)
  · intro f
    exact ⟨lpF_sho hN (Nat.le_refl _) b.1 e5 fun q => absurd q (by omega), fun q => absurd fl (by omega)⟩
theorem lpO_sho {y0 : Int32} (h : JT m T s p) (D : MDt m T V) (hN : V 20 4 ≤ 100) (hc : V 20 4 < 7) {x y : Nat} (hx : x < 200) (hy : y < 200) (g : GP T V) (z : fDu V 6 (V 20 4) (sqx x y) = 0) {m' : Nat → Nat → Int32} (E : ∀ f, X11_shoalLine_L42_s f 75 y0 (nI x) (nI y) (nI (V 20 4)) (enc c j w m n) = some (enc c j w m' n)) : X11_shoalLine_L42 5000 75 y0 (nI x) (nI y) 0 (enc c j w m n) = some (enc c j w m' n) := by
  refine loop_up (z := fun _ _ _ _ _ _ => none) (s := X11_shoalLine_L42_s) (V 20 4) (fun i f => f 75 y0 (nI x) (nI y) (nI i) (enc c j w m n) = some (enc c j w m' n)) ?_ E 5000 0 (Nat.zero_le _) (by omega)
  intro i f hi ih
  rw [lpN_sho h D hN hc hx hy g hi (fun y => du0 z ⟨i, hi, y⟩)]; exact ih
end
