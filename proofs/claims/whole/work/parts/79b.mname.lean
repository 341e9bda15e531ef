/-! the reference's names -/
theorem fdx_eq {B : Nat → Bool} {N k : Nat} (hk : k < N) (h : B k = true) (h' : ∀ i, i < k → B i = false) : fdx B N = k := by
  obtain ⟨f1, f2, f3⟩ := fdx_ok B N
  rcases Nat.lt_trichotomy (fdx B N) k with q | q | q
  · have := f3 (by omega); rw [h' _ q] at this; cases this
  · exact q
  · have := f2 k q; rw [h] at this; cases this
theorem fdx_no {B : Nat → Bool} {N : Nat} (h : ∀ i, i < N → B i = false) : fdx B N = N := by
  obtain ⟨f1, f2, f3⟩ := fdx_ok B N
  rcases Nat.lt_or_ge (fdx B N) N with q | q
  · have := f3 q; rw [h _ q] at this; cases this
  · omega
def fB (T : Nat → Nat) (s : Nat) (V : Nat → Nat → Nat) (p i : Nat) : Bool := if i < 5 then decide (i < V 20 0) && nmB T s V 0 p i else decide (i - 5 < V 20 1) && nmB T s V 1 p (i - 5)
section
variable {c : Nat → Nat → Int32} {j : Nat → Nat → Int64} {w : Nat → Nat} {m : Nat → Nat → Int32} {n : Nat → Nat → Int64} {T : Nat → Nat} {s p : Nat} {V : Nat → Nat → Nat}
theorem m_fin0 {rc : Nat → Int32 → Hp → Option (Int32 × Hp)} (e8 : ∃ l, 1 ≤ l ∧ l ≤ 8 ∧ m 75 8 = nI l) (i : Nat) : X11_find_L44 rc 5000 75 (nI i) 0 0 (enc c j w m n) = rc 75 (nI (i + 1)) (enc c j w m n) := by
  obtain ⟨l, l1, l2, e⟩ := e8
  show X11_find_L44_s rc (X11_find_L44 rc 4999) 75 (nI i) 0 0 (enc c j w m n) = _
  unfold X11_find_L44_s X11_find_B91
  rw [I75_8, ob_some, e, if_neg (by rw [show (0 : Int32) = nI 0 from rfl, N_le (by omega) (by omega)]; omega), if_pos rfl, if_pos rfl, show nI i + 1 = nI (i + 1) from N_add i 1]
theorem m_fin1 {rc : Nat → Int32 → Hp → Option (Int32 × Hp)} {L i q : Nat} (hT : ∀ i, T i < 256) (hL : L ≤ 8) (hi : i < 9) (e8 : m 75 8 = nI L) (el : ∀ k, k < L → m 77 k = nI (T (stp T s p + k))) (en : ∀ k, k < L → m 79 (92 + 8 * i + k) = nI (T (q + k))) : X11_find_L44 rc 5000 75 (nI i) 1 0 (enc c j w m n) = if (∀ k, k < L → T (stp T s p + k) = T (q + k)) then some (nI i, enc c j w m n) else rc 75 (nI (i + 1)) (enc c j w m n) := by
  refine (loop_up (z := fun _ _ _ _ _ => none) (s := X11_find_L44_s rc) L (fun k f => f 75 (nI i) 0 (nI k) (enc c j w m n) = rc 75 (nI (i + 1)) (enc c j w m n) ∧ ((∀ k', k' < k → T (stp T s p + k') = T (q + k')) → f 75 (nI i) 1 (nI k) (enc c j w m n) = if (∀ k, k < L → T (stp T s p + k) = T (q + k)) then some (nI i, enc c j w m n) else rc 75 (nI (i + 1)) (enc c j w m n))) ?_ ?_ 5000 0 (Nat.zero_le _) (by omega)).2 (fun k' h => absurd h (Nat.not_lt_zero _))
  · intro k f hk ih
    have Z : X11_find_L44_s rc f 75 (nI i) 0 (nI k) (enc c j w m n) = rc 75 (nI (i + 1)) (enc c j w m n) := by
      unfold X11_find_L44_s X11_find_B91
      rw [I75_8, ob_some, e8, if_neg (by rw [N_le (by omega) (by omega)]; omega), if_pos rfl, if_pos rfl, show nI i + 1 = nI (i + 1) from N_add i 1]
    refine ⟨Z, fun hh => ?_⟩
    unfold X11_find_L44_s X11_find_B84
    have b1 := hT (stp T s p + k)
    have b2 := hT (q + k)
    rw [I75_8, ob_some, e8, if_neg (by rw [N_le (by omega) (by omega)]; omega), if_neg (by decide), R75_16, ob_some, show (92 : Int32) + 8 * nI i + nI k = nI (92 + 8 * i + k) by rw [show (92 : Int32) = nI 92 from rfl, show (8 : Int32) = nI 8 from rfl, N_mul, N_add, N_add], M79 (by omega), ob_some, R75_12, ob_some, M77 (by omega), ob_some, en k hk, el k hk, show nI k + 1 = nI (k + 1) from N_add k 1]
    by_cases y : T (stp T s p + k) = T (q + k)
    · rw [if_pos (by rw [y])]
      refine ih.2 fun k' hk' => ?_
      by_cases z : k' = k
      · rw [z]; exact y
      · exact hh k' (by omega)
    · rw [if_neg (by rw [N_inj (by omega) (by omega)]; exact fun z => y z.symm), ih.1, if_neg (fun z => y (z k hk))]
  · intro f
    refine ⟨?_, fun hh => ?_⟩
    · unfold X11_find_L44_s X11_find_B91
      rw [I75_8, ob_some, e8, if_pos (by rw [N_le (by omega) (by omega)]; omega), if_pos rfl, show nI i + 1 = nI (i + 1) from N_add i 1]
    · unfold X11_find_L44_s X11_find_B91
      rw [I75_8, ob_some, e8, if_pos (by rw [N_le (by omega) (by omega)]; omega), if_neg (by decide), if_pos hh]
theorem m_findB (h : JT m T s p) (z : srt T s p = 1) (g : GP T V) (hn : NMM m T V) {f : Nat → Int32 → Hp → Option (Int32 × Hp)} {i : Nat} (hi : i < 9) : X11_find_L2_s f 75 (nI i) (enc c j w m n) = if fB T s V p i then some (nI i, enc c j w m n) else f 75 (nI (i + 1)) (enc c j w m n) := by
  obtain ⟨l1, l2, l3⟩ := let_ok h.2.2.1 z
  obtain ⟨e8, el⟩ := h.2.1.2.2.2.2 z
  have gn := g.2.2.2.2.1
  have cc := g.cc
  have key : ∀ r i', r < 2 → i = 5 * r + i' → i' < 5 - r → fB T s V p i = (decide (i' < V 20 r) && nmB T s V r p i') → X11_find_L2_s f 75 (nI i) (enc c j w m n) = if fB T s V p i then some (nI i, enc c j w m n) else f 75 (nI (i + 1)) (enc c j w m n) := by
    intro r i' hr e hi' hB
    rw [hB]
    unfold X11_find_L2_s X11_find_B40 X11_find_B41
    rw [if_neg (by rw [show (9 : Int32) = nI 9 from rfl, N_le (by omega) (by omega)]; omega), R75_16, ob_some, show (83 : Int32) + nI i = nI (83 + i) from N_add 83 i, M79 (by omega), ob_some, e, show 83 + (5 * r + i') = 83 + 5 * r + i' by omega]
    by_cases u : i' < V 20 r
    · obtain ⟨n1, n2⟩ := hn.1 r hr i' u
      obtain ⟨g1, g2, g3⟩ := gn r hr i' u
      rw [n1, if_neg (by rw [show (0 : Int32) = nI 0 from rfl, N_le (by omega) (by omega)]; omega), ob_some, M79 (by omega), ob_some, n1, I75_8, ob_some, e8, decide_eq_true u, Bool.true_and]
      by_cases y : V (15 + r) i' = nxq T s p - stp T s p
      · rw [if_pos (by rw [y]), m_fin1 (T := T) (s := s) (p := p) (L := nxq T s p - stp T s p) (q := V (13 + r) i') h.1.2.1 l2 (by omega) e8 el (fun k hk => n2 k (by omega))]
        unfold nmB
        by_cases x : ∀ k, k < nxq T s p - stp T s p → T (stp T s p + k) = T (V (13 + r) i' + k)
        · rw [if_pos x, if_pos (decide_eq_true ⟨y.symm, fun k hk => x k (by omega)⟩)]
        · rw [if_neg x, if_neg (fun q => x fun k hk => (of_decide_eq_true q).2 k (by omega))]
      · rw [if_neg (by rw [N_inj (by omega) (by omega)]; exact y), m_fin0 ⟨_, l1, l2, e8⟩, if_neg (fun q => y (of_decide_eq_true q).1.symm)]
    · rw [hn.2 r hr i' (by omega) hi', if_pos (by decide), m_fin0 ⟨_, l1, l2, e8⟩, decide_eq_false u, Bool.false_and, if_neg (by decide)]
  by_cases q : i < 5
  · exact key 0 i (by omega) (by omega) (by omega) (by unfold fB; rw [if_pos q])
  · exact key 1 (i - 5) (by omega) (by omega) (by omega) (by unfold fB; rw [if_neg q])
theorem m_find (h : JT m T s p) (z : srt T s p = 1) (g : GP T V) (hn : NMM m T V) : X11_find 75 (enc c j w m n) = some (if fdx (fB T s V p) 9 < 9 then nI (fdx (fB T s V p) 9) else -1, enc c j w m n) := by
  obtain ⟨f1, f2, f3⟩ := fdx_ok (fB T s V p) 9
  refine loop_up (z := fun _ _ _ => none) (s := X11_find_L2_s) (fdx (fB T s V p) 9) (fun i f => f 75 (nI i) (enc c j w m n) = some (if fdx (fB T s V p) 9 < 9 then nI (fdx (fB T s V p) 9) else -1, enc c j w m n)) ?_ ?_ 5000 0 (Nat.zero_le _) (by omega)
  · intro i f hi ih
    rw [m_findB h z g hn (by omega), f2 i hi, if_neg (by decide)]; exact ih
  · intro f
    by_cases q : fdx (fB T s V p) 9 < 9
    · rw [m_findB h z g hn q, f3 q, if_pos rfl, if_pos q]
    · rw [if_neg q]
      unfold X11_find_L2_s
      rw [if_pos (by rw [show (9 : Int32) = nI 9 from rfl, N_le (by omega) (by omega)]; omega)]
/-- a name known: both cannot have it -/
theorem nm_x (g : GP T V) {b o : Nat} (hb : b < V 20 0) (ho : o < V 20 1) (h1 : nmB T s V 0 p b = true) (h2 : nmB T s V 1 p o = true) : False := by
  obtain ⟨a1, a2⟩ := of_decide_eq_true h1
  obtain ⟨b1, b2⟩ := of_decide_eq_true h2
  have e1 : nxq T s p - stp T s p = V 15 b := a1
  have e2 : nxq T s p - stp T s p = V 16 o := b1
  refine g.2.2.2.2.2.2.2.2.2.2.2.2.2 b o hb ho ⟨by omega, fun k hk => ?_⟩
  have x1 : T (stp T s p + k) = T (V 13 b + k) := a2 k hk
  have x2 : T (stp T s p + k) = T (V 14 o + k) := b2 k (by show k < V 16 o; omega)
  rw [← x1, x2]
theorem fB_lo {i : Nat} (h : i < 5) : fB T s V p i = (decide (i < V 20 0) && nmB T s V 0 p i) := by unfold fB; rw [if_pos h]
theorem fB_hi {i : Nat} : fB T s V p (5 + i) = (decide (i < V 20 1) && nmB T s V 1 p i) := by unfold fB; rw [if_neg (by omega), show 5 + i - 5 = i by omega]
theorem old_b (g : GP T V) (h : fix T s V 0 p < V 20 0) : fdx (fB T s V p) 9 = fix T s V 0 p := by
  obtain ⟨f1, f2, f3⟩ := fdx_ok (nmB T s V 0 p) (V 20 0)
  have cc := g.cc
  unfold fix at h ⊢
  refine fdx_eq (by omega) ?_ fun i hi => ?_
  · rw [fB_lo (by omega), decide_eq_true h, f3 h]; rfl
  · rw [fB_lo (by omega), f2 i hi, Bool.and_false]
theorem old_nb (g : GP T V) (h : ¬ fix T s V 0 p < V 20 0) : 5 ≤ fdx (fB T s V p) 9 := by
  obtain ⟨f1, f2, f3⟩ := fdx_ok (nmB T s V 0 p) (V 20 0)
  obtain ⟨k1, k2, k3⟩ := fdx_ok (fB T s V p) 9
  unfold fix at h
  rcases Nat.lt_or_ge (fdx (fB T s V p) 9) 5 with q | q
  · have := k3 (by omega)
    rw [fB_lo q] at this
    simp only [Bool.and_eq_true, decide_eq_true_eq] at this
    rw [f2 _ (by omega)] at this
    exact absurd this.2 (by decide)
  · exact q
theorem old_o (g : GP T V) (h : fix T s V 1 p < V 20 1) : fdx (fB T s V p) 9 = 5 + fix T s V 1 p := by
  obtain ⟨f1, f2, f3⟩ := fdx_ok (nmB T s V 1 p) (V 20 1)
  have cc := g.cc
  unfold fix at h ⊢
  refine fdx_eq (by omega) ?_ fun i hi => ?_
  · rw [fB_hi, decide_eq_true h, f3 h]; rfl
  · by_cases q : i < 5
    · rw [fB_lo q]
      by_cases u : i < V 20 0
      · cases e : nmB T s V 0 p i with
        | false => rw [Bool.and_false]
        | true => exact absurd (nm_x g u h e (f3 h)) id
      · rw [decide_eq_false u, Bool.false_and]
    · obtain ⟨i', rfl⟩ : ∃ i', i = 5 + i' := ⟨i - 5, by omega⟩
      rw [fB_hi, f2 i' (by omega), Bool.and_false]
theorem old_no (g : GP T V) (h : ¬ fix T s V 1 p < V 20 1) : fdx (fB T s V p) 9 < 5 ∨ fdx (fB T s V p) 9 = 9 := by
  obtain ⟨f1, f2, f3⟩ := fdx_ok (nmB T s V 1 p) (V 20 1)
  obtain ⟨k1, k2, k3⟩ := fdx_ok (fB T s V p) 9
  unfold fix at h
  rcases Nat.lt_or_ge (fdx (fB T s V p) 9) 5 with q | q
  · exact Or.inl q
  · rcases Nat.lt_or_ge (fdx (fB T s V p) 9) 9 with q' | q'
    · have := k3 q'
      rw [show fdx (fB T s V p) 9 = 5 + (fdx (fB T s V p) 9 - 5) by omega, fB_hi] at this
      simp only [Bool.and_eq_true, decide_eq_true_eq] at this
      rw [f2 _ (by omega)] at this
      exact absurd this.2 (by decide)
    · exact Or.inr (by omega)
theorem m_old1 (h : JT m T s p) (g : GP T V) (hn : NMM m T V) {r : Nat} (hr : r < 2) (z : fOld T s V r p = 0) : X11_named 75 (nI (5 * r)) (nI (4 + 4 * r)) (enc c j w m n) = some (nI (fix T s V r p), enc c j w m n) := by
  obtain ⟨z1, z2, z3⟩ := fOld_0 z
  have cc := g.cc
  have F : fdx (fB T s V p) 9 = 5 * r + fix T s V r p ∧ 5 * r + fix T s V r p ≤ 4 + 4 * r := by
    match r, hr with
    | 0, _ => exact ⟨by rw [old_b g z3]; omega, by omega⟩
    | 1, _ => exact ⟨by rw [old_o g z3], by omega⟩
  unfold X11_named X11_named_B45
  rw [I75_13, ob_some, h.2.2.2, if_pos rfl, cVv75, m_mustN1 h z1 z2, ob_some, I75_13, ob_some, h.2.2.2, if_pos rfl, cV75, m_find h z1 g hn, bd_eq, if_pos (by omega), F.1, m_in1 (by omega) F.2 (by omega), bd_eq, if_neg (by decide), I75_13, ob_some, h.2.2.2, if_pos rfl, N_sub (by omega), show 5 * r + fix T s V r p - 5 * r = fix T s V r p by omega]
theorem m_old0 (h : JT m T s p) (g : GP T V) (hn : NMM m T V) {r : Nat} (hr : r < 2) (z : fOld T s V r p ≠ 0) : ∃ m', X11_named 75 (nI (5 * r)) (nI (4 + 4 * r)) (enc c j w m n) = some (0, enc c j w m' n) ∧ QB m m' ∧ BF m' (fOld T s V r p) (stp T s p) := by
  by_cases y : srt T s p = 1 ∧ bgs T s p = false
  · have z3 : ¬ fix T s V r p < V 20 r := fun x => z (by unfold fOld; rw [if_pos y]; exact if_pos x)
    have hf : fOld T s V r p = 2 := by unfold fOld; rw [if_pos y]; exact if_neg z3
    obtain ⟨m', e, q, b⟩ := m_wrong0 (c := c) (j := j) (w := w) (n := n) h.2.2.2 (f := 2) h.2.1.1
    refine ⟨m', ?_, q, by rw [hf]; exact b⟩
    have N : X11_in (if fdx (fB T s V p) 9 < 9 then nI (fdx (fB T s V p) 9) else -1) (nI (5 * r)) (nI (4 + 4 * r)) (enc c j w m n) = some (0, enc c j w m n) := by
      have f1 := (fdx_ok (fB T s V p) 9).1
      rw [m_in, if_neg]
      rintro ⟨x1, x2⟩
      by_cases q9 : fdx (fB T s V p) 9 < 9
      · rw [if_pos q9] at x1 x2
        rw [N_lt (by omega) (by omega)] at x1 x2
        match r, hr with
        | 0, _ => have := old_nb g z3; omega
        | 1, _ => have := old_no g z3; omega
      · rw [if_neg q9, nI_iI, show (-1 : Int32) = iI (-1) from rfl, Z_lt (by omega) (by omega) (by omega) (by omega)] at x1
        omega
    unfold X11_named X11_named_B45
    rw [I75_13, ob_some, h.2.2.2, if_pos rfl, cVv75, m_mustN1 h y.1 y.2, ob_some, I75_13, ob_some, h.2.2.2, if_pos rfl, cV75, m_find h y.1 g hn, bd_eq, N, bd_eq, if_pos rfl, I75_4, ob_some, cVv75, show X11_wrong 75 2 _ _ = _ from e, ob_some, I75_13, ob_some, b.1, if_neg (by decide)]
  · have hf : fOld T s V r p = 1 := by unfold fOld; rw [if_neg y]
    obtain ⟨m', e, q, b⟩ := m_mustN0 (c := c) (j := j) (w := w) (n := n) h y
    refine ⟨m', ?_, q, by rw [hf]; exact b⟩
    unfold X11_named
    rw [I75_13, ob_some, h.2.2.2, if_pos rfl, cVv75, e, ob_some, I75_13, ob_some, b.1, if_neg (by decide)]
theorem mF_old (h : m 75 13 = 1) (a b : Int32) : X11_named 75 a b (enc c j w m n) = some (0, enc c j w m n) := by
  unfold X11_named
  rw [I75_13, ob_some, h, if_neg (by decide)]
theorem mF_new (h : m 75 13 = 1) (a : Int32) : X11_newName 75 a (enc c j w m n) = some (enc c j w m n) := by
  unfold X11_newName
  rw [I75_13, ob_some, h, if_neg (by decide)]
theorem fNew_f (g : GP T V) (y : srt T s p = 1 ∧ bgs T s p = false) : fNew T s V p = if fdx (fB T s V p) 9 < 9 then 3 else 0 := by
  unfold fNew
  rw [if_pos y]
  by_cases q0 : fdx (nmB T s V 0 p) (V 20 0) < V 20 0
  · have := old_b (T := T) (s := s) (p := p) g q0
    have cc := g.cc
    unfold fix at this
    rw [if_pos (Or.inl q0), if_pos (by omega)]
  · by_cases q1 : fdx (nmB T s V 1 p) (V 20 1) < V 20 1
    · have := old_o (T := T) (s := s) (p := p) g q1
      have cc := g.cc
      unfold fix at this
      rw [if_pos (Or.inr q1), if_pos (by omega)]
    · have a := old_nb (T := T) (s := s) (p := p) g q0
      have b := old_no (T := T) (s := s) (p := p) g q1
      rw [if_neg (not_or.mpr ⟨q0, q1⟩), if_neg (by omega)]
theorem m_new0 (h : JT m T s p) (g : GP T V) (hn : NMM m T V) (x : Int32) (z : fNew T s V p ≠ 0) : ∃ m', X11_newName 75 x (enc c j w m n) = some (enc c j w m' n) ∧ QB m m' ∧ BF m' (fNew T s V p) (stp T s p) := by
  by_cases y : srt T s p = 1 ∧ bgs T s p = false
  · rw [fNew_f g y] at z ⊢
    have q : fdx (fB T s V p) 9 < 9 := by
      by_cases q : fdx (fB T s V p) 9 < 9
      · exact q
      · rw [if_neg q] at z; exact absurd rfl z
    obtain ⟨m', e, q', b⟩ := m_wrong0 (c := c) (j := j) (w := w) (n := n) h.2.2.2 (f := 3) h.2.1.1
    refine ⟨m', ?_, q', by rw [if_pos q]; exact b⟩
    unfold X11_newName X11_newName_B35
    rw [I75_13, ob_some, h.2.2.2, if_pos rfl, cVv75, m_mustN1 h y.1 y.2, ob_some, I75_13, ob_some, h.2.2.2, if_pos rfl, cV75, m_find h y.1 g hn, bd_eq, if_pos q, if_neg (by rw [N_lt0 (by omega)]; exact id), I75_4, ob_some, cVv75, show X11_wrong 75 3 _ _ = _ from e, ob_some, I75_13, ob_some, b.1, if_neg (by decide)]
  · have hf : fNew T s V p = 1 := by unfold fNew; rw [if_neg y]
    obtain ⟨m', e, q, b⟩ := m_mustN0 (c := c) (j := j) (w := w) (n := n) h y
    refine ⟨m', ?_, q, by rw [hf]; exact b⟩
    unfold X11_newName X11_newName_B35
    rw [I75_13, ob_some, h.2.2.2, if_pos rfl, cVv75, e, ob_some, I75_13, ob_some, b.1, if_neg (by decide), ob_some, if_neg (by decide)]
/-- what a new name leaves -/
def QN (m m' : Nat → Nat → Int32) (sl : Nat) : Prop := (∀ y, y ≠ 75 → y ≠ 77 → y ≠ 79 → m' y = m y) ∧ (∀ f, f ≠ 4 → f ≠ 5 → f ≠ 6 → f ≠ 7 → f ≠ 8 → m' 75 f = m 75 f) ∧ ∀ x, x ≠ 83 + sl → (x < 92 + 8 * sl ∨ 92 + 8 * sl + 8 ≤ x) → m' 79 x = m 79 x
theorem m_new1 (h : JT m T s p) (g : GP T V) (hn : NMM m T V) {sl : Nat} (hs : sl < 9) (z : fNew T s V p = 0) : ∃ m', X11_newName 75 (nI sl) (enc c j w m n) = some (enc c j w m' n) ∧ QN m m' sl ∧ JT m' T s (nxq T s p) ∧ m' 79 (83 + sl) = nI (nxq T s p - stp T s p) ∧ ∀ k, k < nxq T s p - stp T s p → m' 79 (92 + 8 * sl + k) = nI (T (stp T s p + k)) := by
  obtain ⟨z1, z2, -, -⟩ := fNew_0 z
  rw [fNew_f g ⟨z1, z2⟩] at z
  have q : ¬ fdx (fB T s V p) 9 < 9 := fun q => by rw [if_pos q] at z; cases z
  obtain ⟨l1, l2, l3⟩ := let_ok h.2.2.1 z1
  obtain ⟨e8, el⟩ := h.2.1.2.2.2.2 z1
  have L : ∃ m', X11_newName_L45 5000 75 (nI sl) 0 (enc c j w m n) = some (enc c j w m' n) ∧ QN m m' sl ∧ JT m' T s (nxq T s p) ∧ m' 79 (83 + sl) = nI (nxq T s p - stp T s p) ∧ ∀ k, k < nxq T s p - stp T s p → m' 79 (92 + 8 * sl + k) = nI (T (stp T s p + k)) := by
    refine loop_up (z := fun _ _ _ _ => none) (s := X11_newName_L45_s) (nxq T s p - stp T s p) (fun i f => ∀ m1 : Nat → Nat → Int32, (∀ y, y ≠ 79 → m1 y = m y) → (∀ x, (x < 92 + 8 * sl ∨ 92 + 8 * sl + 8 ≤ x) → m1 79 x = m 79 x) → (∀ k, k < i → m1 79 (92 + 8 * sl + k) = nI (T (stp T s p + k))) → ∃ m', f 75 (nI sl) (nI i) (enc c j w m1 n) = some (enc c j w m' n) ∧ QN m m' sl ∧ JT m' T s (nxq T s p) ∧ m' 79 (83 + sl) = nI (nxq T s p - stp T s p) ∧ ∀ k, k < nxq T s p - stp T s p → m' 79 (92 + 8 * sl + k) = nI (T (stp T s p + k))) ?_ ?_ 5000 0 (Nat.zero_le _) (by omega) m (fun _ _ => rfl) (fun _ _ => rfl) (fun k hk => absurd hk (Nat.not_lt_zero _))
    · intro i f hi ih m1 f1 f2 f3
      unfold X11_newName_L45_s
      rw [I75_8, ob_some, f1 75 (by decide), e8, if_neg (by rw [N_le (by omega) (by omega)]; omega), R75_16, ob_some, R75_12, ob_some, M77 (by omega), ob_some, f1 77 (by decide), el i hi, show (92 : Int32) + 8 * nI sl + nI i = nI (92 + 8 * sl + i) by rw [show (92 : Int32) = nI 92 from rfl, show (8 : Int32) = nI 8 from rfl, N_mul, N_add, N_add], S79 (by omega), ob_some, show nI i + 1 = nI (i + 1) from N_add i 1]
      refine ih _ (fun y hy => by rw [vup_ne _ _ hy]; exact f1 y hy) (fun x hx => by rw [vup_at, upd_ne (by omega)]; exact f2 x hx) fun k hk => ?_
      rw [vup_at]
      by_cases y : k = i
      · subst y; rw [upd_at]
      · rw [upd_ne (by omega)]; exact f3 k (by omega)
    · intro f m1 f1 f2 f3
      have J1 : JT (va_up m1 79 (upd (m1 79) (83 + sl) (nI (nxq T s p - stp T s p)))) T s p := by
        have o : ∀ y, y ≠ 79 → va_up m1 79 (upd (m1 79) (83 + sl) (nI (nxq T s p - stp T s p))) y = m y := fun y hy => by rw [vup_ne _ _ hy]; exact f1 y hy
        obtain ⟨⟨a1, a2, a3, a4⟩, ⟨b1, b2, b3, b4, b5⟩, h3, h4⟩ := h
        refine ⟨⟨a1, a2, by rw [o 75 (by decide)]; exact a3, fun i hi => by rw [o 76 (by decide)]; exact a4 i hi⟩, ⟨by rw [o 75 (by decide)]; exact b1, by rw [o 75 (by decide)]; exact b2, by rw [o 75 (by decide)]; exact b3, fun y => by rw [o 75 (by decide)]; exact b4 y, fun y => ?_⟩, h3, by rw [o 75 (by decide)]; exact h4⟩
        rw [o 75 (by decide), o 77 (by decide)]; exact b5 y
      obtain ⟨m', e, q', t⟩ := m_adv (c := c) (j := j) (w := w) (n := n) J1
      refine ⟨m', ?_, ⟨fun y h1 h2 h3 => by rw [q'.1 y h1 h2, vup_ne _ _ h3]; exact f1 y h3, fun f h1 h2 h3 h4 h5 => by rw [q'.2 f h1 h2 h3 h4 h5, vup_ne _ _ (by decide), f1 75 (by decide)], fun x h1 h2 => by rw [q'.1 79 (by decide) (by decide), vup_at, upd_ne h1]; exact f2 x h2⟩, t, by rw [q'.1 79 (by decide) (by decide), vup_at, upd_at], fun k hk => by rw [q'.1 79 (by decide) (by decide), vup_at, upd_ne (by omega)]; exact f3 k hk⟩
      unfold X11_newName_L45_s
      rw [I75_8, ob_some, f1 75 (by decide), e8, if_pos (by rw [N_le (by omega) (by omega)]; omega), R75_16, ob_some, ob_some, show (83 : Int32) + nI sl = nI (83 + sl) from N_add 83 sl, S79 (by omega), ob_some, cVv75, e, ob_some]
  obtain ⟨m', e, r⟩ := L
  refine ⟨m', ?_, r⟩
  unfold X11_newName X11_newName_B35
  rw [I75_13, ob_some, h.2.2.2, if_pos rfl, cVv75, m_mustN1 h z1 z2, ob_some, I75_13, ob_some, h.2.2.2, if_pos rfl, cV75, m_find h z1 g hn, bd_eq, if_neg q, if_pos (by decide), I75_13, ob_some, h.2.2.2, if_pos rfl, e]
end
