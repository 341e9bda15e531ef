/-! class and reference side by side -/
def KP (K : Nat → Nat → Nat) (k col x : Nat) (r i : Nat) : Nat := if r = col ∧ i = k then x else K r i
theorem KP_C (K : Nat → Nat → Nat) (k q : Nat) : KP K k 1 q = KC K k q := rfl
theorem KP_B (K : Nat → Nat → Nat) (k b : Nat) : KP K k 0 b = KB K k b := rfl
theorem KP_back (K : Nat → Nat → Nat) (k col x : Nat) : KP (KP K k col x) k col (K col k) = K := by
  funext r i; unfold KP; split
  · rename_i h; rw [h.1, h.2]
  · rfl
/-- what can be undone -/
def AC (c m : Nat → Nat → Int32) (V K : Nat → Nat → Nat) : Prop := ∃ (l u : Nat) (H : Nat → Nat → Nat → Nat), l < 16 ∧ u ≤ 16 ∧ c 56 1 = nI l ∧ c 56 2 = nI u ∧ m 75 22 = nI u ∧ H u = K ∧
  ∀ i, i < u → GK V (H i) ∧ MK m 83 (25 * i) V (H i) ∧ ∃ k col old, k < V 20 2 ∧ col < 3 ∧ old < 1000 ∧ c 58 ((l + 16 + i - u) % 16 * 3) = nI k ∧ c 58 ((l + 16 + i - u) % 16 * 3 + 1) = nI col ∧ c 58 ((l + 16 + i - u) % 16 * 3 + 2) = nI old ∧ H i = KP (H (i + 1)) k col old
/-- images -/
def IM (c m : Nat → Nat → Int32) (V : Nat → Nat → Nat) : Prop := ∃ (im : Nat) (J : Nat → Nat → Nat → Nat), im ≤ 3 ∧ c 0 13 = nI im ∧ m 75 23 = nI im ∧ ∀ i, i < im → GK V (J i) ∧ RK c (41 + 5 * i) V (J i) (V 1) ∧ c (41 + 5 * i) 2 = -1 ∧ MK m 84 (25 * i) V (J i)
def UW (c : Nat → Nat → Int32) (w : Nat → Nat) (m : Nat → Nat → Int32) (V K : Nat → Nat → Nat) : Prop := CN c w (w 0) V K ∧ MN m V K ∧ AC c m V K ∧ IM c m V
def NOV (c : Nat → Nat → Int32) (w : Nat → Nat) (m : Nat → Nat → Int32) : Prop := (∀ t, t < 7 → c (w 0 + 1 + 2 * t) 3 = 0) ∧ c (w 0) 10 = 0 ∧ c (w 0) 11 = 0 ∧ c 0 13 = 0 ∧ m 75 23 = 0 ∧ c 56 2 = 0 ∧ m 75 22 = 0 ∧ ∃ l, l < 16 ∧ c 56 1 = nI l
def TP (c m : Nat → Nat → Int32) : Prop := ∃ t, t ≤ 900 ∧ c 0 12 = nI t ∧ m 75 2 = nI t ∧ ∀ i, i < t → c 1 i &&& 255 = m 76 i
def BS (c : Nat → Nat → Int32) (w : Nat → Nat) (m : Nat → Nat → Int32) : Prop := ((w 0 = 2 ∧ w 1 = 17) ∨ (w 0 = 17 ∧ w 1 = 2)) ∧ w 3 = w 0 ∧ TP c m ∧ c 0 14 = m 75 11 ∧ c 32 11 = m 75 9 ∧ (c 0 14 = 4 → c 32 12 = m 75 10)
def INV (c : Nat → Nat → Int32) (w : Nat → Nat) (m : Nat → Nat → Int32) : Prop := BS c w m ∧ ((c 0 11 = 0 ∧ m 75 14 = 0 ∧ NOV c w m) ∨ (c 0 11 = 1 ∧ m 75 14 = 1 ∧ ∃ V K, UW c w m V K))
/-- what a question leaves as it is -/
def cq (c c' : Nat → Nat → Int32) : Prop := (∀ y, 1 ≤ y → y < 59 → c' y = c y) ∧ (∀ f, f ≠ 14 → c' 0 f = c 0 f)
def mq (m m' : Nat → Nat → Int32) : Prop := (∀ y, 75 < y → y < 85 → m' y = m y) ∧ (∀ f, 1 ≤ f → f < 31 → f ≠ 11 → m' 75 f = m 75 f)
theorem AC.q {c c' m m' : Nat → Nat → Int32} {V K : Nat → Nat → Nat} (h : AC c m V K) (h1 : c' 56 = c 56) (h2 : c' 58 = c 58) (h3 : m' 75 22 = m 75 22) (h4 : m' 83 = m 83) : AC c' m' V K := by
  obtain ⟨l, u, H, a1, a2, a3, a4, a5, a6, a7⟩ := h
  refine ⟨l, u, H, a1, a2, by rw [h1]; exact a3, by rw [h1]; exact a4, by rw [h3]; exact a5, a6, fun i hi => ?_⟩
  obtain ⟨b1, b2, b3⟩ := a7 i hi
  rw [h2]
  exact ⟨b1, b2.fr h4, b3⟩
theorem IM.q {c c' m m' : Nat → Nat → Int32} {V : Nat → Nat → Nat} (h : IM c m V) (h1 : c' 0 13 = c 0 13) (h2 : ∀ y, 41 ≤ y → y < 56 → c' y = c y) (h3 : m' 75 23 = m 75 23) (h4 : m' 84 = m 84) : IM c' m' V := by
  obtain ⟨im, J, a1, a2, a3, a4⟩ := h
  refine ⟨im, J, a1, by rw [h1]; exact a2, by rw [h3]; exact a3, fun i hi => ?_⟩
  obtain ⟨b1, b2, b3, b4⟩ := a4 i hi
  exact ⟨b1, b2.fr (h2 _ (by omega) (by omega)) (h2 _ (by omega) (by omega)), by rw [h2 _ (by omega) (by omega)]; exact b3, b4.fr h4⟩
theorem CN.q {c c' : Nat → Nat → Int32} {w : Nat → Nat} {v : Nat} {V K : Nat → Nat → Nat} (h : CN c w v V K) (f : ∀ y, 2 ≤ y → y < 40 → c' y = c y) : CN c' w v V K := by
  obtain ⟨hv, hw, g, hV, gk, hK, h2⟩ := h
  exact ⟨hv, hw, g, hV.fr hv (fun y h1 h2 => f y h1 (by omega)), gk, hK.fr (f _ (by omega) (by omega)) (f _ (by omega) (by omega)), by rw [f _ (by omega) (by omega)]; exact h2⟩
theorem MN.q {m m' : Nat → Nat → Int32} {V K : Nat → Nat → Nat} (h : MN m V K) (f : ∀ y, 75 < y → y < 85 → m' y = m y) : MN m' V K := ⟨h.1, h.2.1, h.2.2.1.fr (f 78 (by omega) (by omega)), h.2.2.2.1.fr (f 80 (by omega) (by omega)), h.2.2.2.2.fr (f 82 (by omega) (by omega))⟩
theorem UW.q {c c' m m' : Nat → Nat → Int32} {w : Nat → Nat} {V K : Nat → Nat → Nat} (h : UW c w m V K) (fc : cq c c') (fm : mq m m') : UW c' w m' V K := by
  obtain ⟨h1, h2, h3, h4⟩ := h
  exact ⟨h1.q fun y a b => fc.1 y (by omega) (by omega), h2.q fm.1, h3.q (fc.1 56 (by omega) (by omega)) (fc.1 58 (by omega) (by omega)) (fm.2 22 (by omega) (by omega) (by omega)) (fm.1 83 (by omega) (by omega)), h4.q (fc.2 13 (by omega)) (fun y a b => fc.1 y (by omega) (by omega)) (fm.2 23 (by omega) (by omega) (by omega)) (fm.1 84 (by omega) (by omega))⟩
theorem INV.q {c c' m m' : Nat → Nat → Int32} {w : Nat → Nat} (h : INV c w m) (fc : cq c c') (fm : mq m m') (ht : c' 0 14 = m' 75 11) (h4 : c' 0 14 = 4 → c 0 14 = 4) : INV c' w m' := by
  obtain ⟨⟨b1, b2, b3, b4, b5, b6⟩, hr⟩ := h
  refine ⟨⟨b1, b2, ?_, ht, ?_, ?_⟩, ?_⟩
  · obtain ⟨t, t1, t2, t3, t4⟩ := b3
    refine ⟨t, t1, by rw [fc.2 12 (by omega)]; exact t2, by rw [fm.2 2 (by omega) (by omega) (by omega)]; exact t3, fun i hi => ?_⟩
    rw [fc.1 1 (by omega) (by omega), fm.1 76 (by omega) (by omega)]; exact t4 i hi
  · rw [fc.1 32 (by omega) (by omega), fm.2 9 (by omega) (by omega) (by omega)]; exact b5
  · intro z
    rw [fc.1 32 (by omega) (by omega), fm.2 10 (by omega) (by omega) (by omega)]; exact b6 (h4 z)
  · rw [fc.2 11 (by omega), fm.2 14 (by omega) (by omega) (by omega)]
    rcases hr with ⟨r1, r2, n1, n2, n3, n4, n5, n6, n7, l, l1, l2⟩ | ⟨r1, r2, V, K, hU⟩
    · have hw : w 0 = 2 ∨ w 0 = 17 := by rcases b1 with q | q <;> omega
      refine Or.inl ⟨r1, r2, fun t ht => ?_, ?_, ?_, ?_, ?_, ?_, ?_, l, l1, ?_⟩
      · rw [fc.1 _ (by omega) (by omega)]; exact n1 t ht
      · rw [fc.1 _ (by omega) (by omega)]; exact n2
      · rw [fc.1 _ (by omega) (by omega)]; exact n3
      · rw [fc.2 13 (by omega)]; exact n4
      · rw [fm.2 23 (by omega) (by omega) (by omega)]; exact n5
      · rw [fc.1 56 (by omega) (by omega)]; exact n6
      · rw [fm.2 22 (by omega) (by omega) (by omega)]; exact n7
      · rw [fc.1 56 (by omega) (by omega)]; exact l2
    · exact Or.inr ⟨r1, r2, V, K, hU.q fc fm⟩
theorem cq_rf (c : Nat → Nat → Int32) (x : Int32) : cq c (rf c x) := ⟨fun y h1 _ => rf_o (by omega), fun f h => rf_f h⟩
theorem cq_fr {c c' : Nat → Nat → Int32} (f : fr (rf c 0) c') : cq c c' := ⟨fun y h1 h2 => by rw [f y (by omega), rf_o (by omega)], fun g hg => by rw [f 0 (by omega), rf_f hg]⟩
theorem fr_14 {c c' : Nat → Nat → Int32} (f : fr (rf c 0) c') : c' 0 14 = 0 := by rw [f 0 (by omega), rf_t]
theorem mq_gt (m : Nat → Nat → Int32) (x : Int32) : mq m (tb (gd m) x) := ⟨fun y h1 h2 => by rw [tb_o (by omega), gd_o (by omega)], fun f h1 h2 h3 => by rw [tb_f h3, gd_f (by omega) h3]⟩
theorem mq_mf {m m' : Nat → Nat → Int32} (f : mf (gd m) m') : mq m m' := ⟨fun y h1 h2 => by rw [f.1 y h1 h2, gd_o (by omega)], fun g h1 h2 h3 => by rw [f.2 g h1 h2, gd_f (by omega) h3]⟩
theorem mf_11 {m m' : Nat → Nat → Int32} (f : mf (gd m) m') : m' 75 11 = 0 := by rw [f.2 11 (by omega) (by omega), gd_t]
/-- one call: both answer alike, and stay side by side -/
def CALL {α : Type} (F G : Hp → Option (α × Hp)) (c : Nat → Nat → Int32) (j : Nat → Nat → Int64) (w : Nat → Nat) (m : Nat → Nat → Int32) (n : Nat → Nat → Int64) : Prop := ∃ r c' j' w' m' n', F (enc c j w m n) = some (r, enc c' j' w' m n) ∧ G (enc c' j' w' m n) = some (r, enc c' j' w' m' n') ∧ INV c' w' m'
section
variable {α : Type} {F G : Hp → Option (α × Hp)} {c : Nat → Nat → Int32} {j : Nat → Nat → Int64} {w : Nat → Nat} {m : Nat → Nat → Int32} {n : Nat → Nat → Int64} {v : Nat} {V K : Nat → Nat → Nat}
/-- both refuse -/
theorem CALL.no (I : INV c w m) {r : α} {x : Int32} (hx : x ≠ 4) (e1 : F (enc c j w m n) = some (r, enc (rf c x) j w m n)) (e2 : G (enc (rf c x) j w m n) = some (r, enc (rf c x) j w (tb (gd m) x) n)) : CALL F G c j w m n :=
  ⟨r, _, _, _, _, _, e1, e2, I.q (cq_rf c x) (mq_gt m x) (by rw [rf_t, tb_t]) (fun z => absurd (by rw [rf_t] at z; exact z) hx)⟩
/-- both answer, and nothing that lasts has changed -/
theorem CALL.yes (I : INV c w m) {r : α} {c' m' : Nat → Nat → Int32} {j' n' : Nat → Nat → Int64} (fc : fr (rf c 0) c') (fm : mf (gd m) m') (e1 : F (enc c j w m n) = some (r, enc c' j' w m n)) (e2 : G (enc c' j' w m n) = some (r, enc c' j' w m' n')) : CALL F G c j w m n :=
  ⟨r, _, _, _, _, _, e1, e2, I.q (cq_fr fc) (mq_mf fm) (by rw [fr_14 fc, mf_11 fm]) (fun z => absurd (by rw [fr_14 fc] at z; exact z) (by decide))⟩
theorem n_dec (x : Int32) (k : Nat) (hk : k < 2147483648) : (∃ i, i < k ∧ x = nI i) ∨ (x < 0 ∨ (¬ x < 0 ∧ nI k ≤ x)) := by
  by_cases h0 : x < 0
  · exact Or.inr (Or.inl h0)
  · by_cases h1 : nI k ≤ x
    · exact Or.inr (Or.inr ⟨h0, h1⟩)
    · exact Or.inl (n_of h0 (Int32.not_le.mp h1) hk)
theorem le_lt {x : Int32} {k : Nat} (hk : k < 2147483647) (h0 : ¬ x < 0) : nI (k + 1) ≤ x ↔ nI k < x := by
  obtain ⟨i, hi, rfl⟩ := n_pos h0
  rw [N_le (by omega) hi, N_lt (by omega) hi]; omega
/-- numbers up to a bound, and others -/
theorem out_lt {x : Int32} {k : Nat} (hk : k < 2147483647) (h : x < 0 ∨ (¬ x < 0 ∧ nI (k + 1) ≤ x)) : x < 0 ∨ (¬ x < 0 ∧ nI k < x) := h.imp id fun z => ⟨z.1, (le_lt hk z.1).mp z.2⟩
theorem m_in1 {a b k : Nat} (ha : a ≤ k) (hb : k ≤ b) (hb' : b < 2147483648) (h : Hp) : X11_in (nI k) (nI a) (nI b) h = some (1, h) := by
  rw [m_in, if_pos ⟨by rw [N_lt (by omega) (by omega)]; omega, by rw [N_lt (by omega) (by omega)]; omega⟩]
theorem m_in0 {x : Int32} {b : Nat} (hb : b < 2147483647) (hx : x < 0 ∨ (¬ x < 0 ∧ nI (b + 1) ≤ x)) (h : Hp) : X11_in x 0 (nI b) h = some (0, h) := by
  rw [m_in, if_neg]
  rintro ⟨h1, h2⟩
  rcases out_lt hb hx with q | q
  · exact h1 q
  · exact h2 q.2
theorem nI_prd {k : Nat} (h : 1 ≤ k) : nI k - 1 = nI (k - 1) := by rw [show (1 : Int32) = nI 1 from rfl, N_sub h]
theorem c_hasW1 (h : CN c w v V K) (h0 : w 0 = v) (hu : c 0 11 = 1) {k : Nat} (hk : k < V 20 2) : X10_hasWatch 0 (nI k) (enc c j w m n) = some (1, enc c j w m n) := by
  have g12 := h.2.2.1.1.2.2.1
  unfold X10_hasWatch
  rw [F0_11, ob_some, hu, if_neg (by decide), if_neg (by rw [N_lt0 (by omega)]; exact id), F0_9, ob_some, h0, V_2 h.1, ob_some, c_cW h h0, ob_some, if_neg (by rw [N_le (by omega) (by omega)]; omega), rZ_1]
theorem c_hasW0 (h : CN c w v V K) (h0 : w 0 = v) (hu : c 0 11 = 1) {x : Int32} (hx : x < 0 ∨ (¬ x < 0 ∧ nI (V 20 2) ≤ x)) : X10_hasWatch 0 x (enc c j w m n) = some (0, enc c j w m n) := by
  unfold X10_hasWatch
  rw [F0_11, ob_some, hu, if_neg (by decide)]
  rcases hx with q | ⟨q1, q2⟩
  · rw [if_pos q, rZ_0]
  · rw [if_neg q1, F0_9, ob_some, h0, V_2 h.1, ob_some, c_cW h h0, ob_some, if_pos q2, rZ_0]
theorem c_hasWn (hu : c 0 11 = 0) (x : Int32) : X10_hasWatch 0 x (enc c j w m n) = some (0, enc c j w m n) := by
  unfold X10_hasWatch
  rw [F0_11, ob_some, hu, if_pos rfl, rZ_0]
theorem c_hasB1 (h : CN c w v V K) (h0 : w 0 = v) (hu : c 0 11 = 1) {k : Nat} (hk : k < V 20 0) : X10_hasBoy 0 (nI k) (enc c j w m n) = some (1, enc c j w m n) := by
  have g5 := h.2.2.1.1.1
  unfold X10_hasBoy
  rw [F0_11, ob_some, hu, if_neg (by decide), if_neg (by rw [N_lt0 (by omega)]; exact id), F0_9, ob_some, h0, V_0 h.1, ob_some, c_cB h h0, ob_some, if_neg (by rw [N_le (by omega) (by omega)]; omega), rZ_1]
theorem c_hasB0 (h : CN c w v V K) (h0 : w 0 = v) (hu : c 0 11 = 1) {x : Int32} (hx : x < 0 ∨ (¬ x < 0 ∧ nI (V 20 0) ≤ x)) : X10_hasBoy 0 x (enc c j w m n) = some (0, enc c j w m n) := by
  unfold X10_hasBoy
  rw [F0_11, ob_some, hu, if_neg (by decide)]
  rcases hx with q | ⟨q1, q2⟩
  · rw [if_pos q, rZ_0]
  · rw [if_neg q1, F0_9, ob_some, h0, V_0 h.1, ob_some, c_cB h h0, ob_some, if_pos q2, rZ_0]
theorem c_hasBn (hu : c 0 11 = 0) (x : Int32) : X10_hasBoy 0 x (enc c j w m n) = some (0, enc c j w m n) := by
  unfold X10_hasBoy
  rw [F0_11, ob_some, hu, if_pos rfl, rZ_0]
theorem m_isW1 (h : MN m V K) (hu : m 75 14 = 1) {k : Nat} (hk : k < V 20 2) : X11_isWatch 75 (nI k) (enc c j w m n) = some (1, enc c j w m n) := by
  have g12 := h.1.1.2.2.1
  unfold X11_isWatch
  rw [I75_14, ob_some, hu, if_neg (by decide), R75_15, ob_some, rW h.2.2.1, ob_some, nI_prd (by omega), show (0 : Int32) = nI 0 from rfl, m_in1 (by omega) (by omega) (by omega), bd_eq, if_neg (by decide), rZ_1]
theorem m_isW0 (h : MN m V K) (hu : m 75 14 = 1) {x : Int32} (hx : x < 0 ∨ (¬ x < 0 ∧ nI (V 20 2) ≤ x)) : X11_isWatch 75 x (enc c j w m n) = some (0, enc c j w m n) := by
  have g12 := h.1.1.2.2.1
  have g1 := h.1.1.2.2.2.2.2.2.2
  unfold X11_isWatch
  rw [I75_14, ob_some, hu, if_neg (by decide), R75_15, ob_some, rW h.2.2.1, ob_some, nI_prd g1, m_in0 (by omega) (by rw [show V 20 2 - 1 + 1 = V 20 2 by omega]; exact hx), bd_eq, if_pos rfl, rZ_0]
theorem m_isWn (hu : m 75 14 = 0) (x : Int32) : X11_isWatch 75 x (enc c j w m n) = some (0, enc c j w m n) := by
  unfold X11_isWatch
  rw [I75_14, ob_some, hu, if_pos rfl, rZ_0]
theorem m_isB1 (h : MN m V K) (hu : m 75 14 = 1) {k : Nat} (hk : k < V 20 0) : X11_isBoy 75 (nI k) (enc c j w m n) = some (1, enc c j w m n) := by
  have g5 := h.1.1.1
  unfold X11_isBoy
  rw [I75_14, ob_some, hu, if_neg (by decide), R75_15, ob_some, rB h.2.2.1, ob_some, nI_prd (by omega), show (0 : Int32) = nI 0 from rfl, m_in1 (by omega) (by omega) (by omega), bd_eq, if_neg (by decide), rZ_1]
theorem boys_pos (h : MN m V K) : 1 ≤ V 20 0 := by
  have := (h.2.1 0 h.1.1.2.2.2.2.2.2.2).1; omega
theorem offs_pos (h : MN m V K) : 1 ≤ V 20 1 := by
  have := (h.1.2.2.2.2.1 0 h.1.1.2.2.2.2.2.2.2).2.1; omega
theorem m_isB0 (h : MN m V K) (hu : m 75 14 = 1) {x : Int32} (hx : x < 0 ∨ (¬ x < 0 ∧ nI (V 20 0) ≤ x)) : X11_isBoy 75 x (enc c j w m n) = some (0, enc c j w m n) := by
  have g5 := h.1.1.1
  have g1 := boys_pos h
  unfold X11_isBoy
  rw [I75_14, ob_some, hu, if_neg (by decide), R75_15, ob_some, rB h.2.2.1, ob_some, nI_prd g1, m_in0 (by omega) (by rw [show V 20 0 - 1 + 1 = V 20 0 by omega]; exact hx), bd_eq, if_pos rfl, rZ_0]
theorem m_isBn (hu : m 75 14 = 0) (x : Int32) : X11_isBoy 75 x (enc c j w m n) = some (0, enc c j w m n) := by
  unfold X11_isBoy
  rw [I75_14, ob_some, hu, if_pos rfl, rZ_0]
theorem c_why (x y : Int32) (h : Hp) : X10_whyNot x y h = some (if x = 0 then 1 else if y = 0 then 2 else 0, h) := by
  unfold X10_whyNot; split
  · rfl
  · split <;> rfl
theorem m_why (a : Nat) (x y : Int32) (h : Hp) : X11_why a x y h = some (if x = 0 then 1 else if y = 0 then 2 else 0, h) := by
  unfold X11_why; split
  · rfl
  · split <;> rfl
theorem c_after1 (h : CN c w v V K) (h0 : w 0 = v) (hu : c 0 11 = 1) {b : Nat} (hb : b ≤ V 20 2) : X10_whyNotAfter 0 (nI b) (enc c j w m n) = some (0, enc c j w m n) := by
  have g12 := h.2.2.1.1.2.2.1
  unfold X10_whyNotAfter X10_whyNotAfter_B27
  rw [F0_11, ob_some, if_neg (by rw [N_lt0 (by omega)]; exact id), F0_9, ob_some, h0, V_2 h.1, ob_some, c_cW h h0, ob_some, if_neg (by rw [N_lt (by omega) (by omega)]; omega), c_why, bd_eq, hu, if_neg (by decide), if_neg (by decide)]
theorem c_after0 (h : CN c w v V K) (h0 : w 0 = v) (hu : c 0 11 = 1) {x : Int32} (hx : x < 0 ∨ (¬ x < 0 ∧ nI (V 20 2 + 1) ≤ x)) : X10_whyNotAfter 0 x (enc c j w m n) = some (2, enc c j w m n) := by
  have g12 := h.2.2.1.1.2.2.1
  unfold X10_whyNotAfter X10_whyNotAfter_B26 X10_whyNotAfter_B27
  rw [F0_11, ob_some, hu]
  rcases out_lt (by omega) hx with q | ⟨q1, q2⟩
  · rw [if_pos q, c_why, bd_eq, if_neg (by decide), if_pos rfl]
  · rw [if_neg q1, F0_9, ob_some, h0, V_2 h.1, ob_some, c_cW h h0, ob_some, if_pos q2, c_why, bd_eq, if_neg (by decide), if_pos rfl]
theorem c_aftern (hb : w 0 = 2 ∨ w 0 = 17) (hu : c 0 11 = 0) (x : Int32) : X10_whyNotAfter 0 x (enc c j w m n) = some (1, enc c j w m n) := by
  have hv : isV (w 0) := hb
  unfold X10_whyNotAfter X10_whyNotAfter_B26 X10_whyNotAfter_B27
  rw [F0_11, ob_some, hu, F0_9, ob_some, V_2 hv, ob_some, T_count (V_wats hv), ob_some, c_why, bd_eq, if_pos rfl, c_why, bd_eq, if_pos rfl]
  split
  · rfl
  · split <;> rfl
theorem m_num1 (h : MN m V K) (hu : m 75 14 = 1) {b : Nat} (hb : b ≤ V 20 2) : X11_numberWhy 75 (nI b) (enc c j w m n) = some (0, enc c j w m n) := by
  have g12 := h.1.1.2.2.1
  unfold X11_numberWhy X11_numberWhy_B31
  rw [I75_14, ob_some, ob_some, hu, if_neg (by decide), R75_15, ob_some, rW h.2.2.1, ob_some, show (0 : Int32) = nI 0 from rfl, m_in1 (by omega) hb (by omega), bd_eq, if_neg (by decide), cV75, m_why, bd_eq, if_neg (by decide), if_neg (by decide)]
  rfl
theorem m_num0 (h : MN m V K) (hu : m 75 14 = 1) {x : Int32} (hx : x < 0 ∨ (¬ x < 0 ∧ nI (V 20 2 + 1) ≤ x)) : X11_numberWhy 75 x (enc c j w m n) = some (2, enc c j w m n) := by
  have g12 := h.1.1.2.2.1
  unfold X11_numberWhy X11_numberWhy_B30 X11_numberWhy_B31
  rw [I75_14, ob_some, ob_some, hu, if_neg (by decide), R75_15, ob_some, rW h.2.2.1, ob_some, m_in0 (by omega) hx, bd_eq, if_pos rfl, cV75, m_why, bd_eq, if_neg (by decide), if_pos rfl]
theorem m_numn (hu : m 75 14 = 0) (x : Int32) : X11_numberWhy 75 x (enc c j w m n) = some (1, enc c j w m n) := by
  unfold X11_numberWhy X11_numberWhy_B30 X11_numberWhy_B31
  rw [I75_14, ob_some, ob_some, hu, if_pos rfl, cV75, m_why, bd_eq, if_pos rfl]
theorem c_under1 (hu : c 0 11 = 1) : X10_whyNotUnderWay 0 (enc c j w m n) = some (0, enc c j w m n) := by
  unfold X10_whyNotUnderWay
  rw [F0_11, ob_some, hu, if_neg (by decide)]
theorem c_undern (hu : c 0 11 = 0) : X10_whyNotUnderWay 0 (enc c j w m n) = some (1, enc c j w m n) := by
  unfold X10_whyNotUnderWay
  rw [F0_11, ob_some, hu, if_pos rfl]
theorem gd_14 (m : Nat → Nat → Int32) : gd m 75 14 = m 75 14 := gd_f (by omega) (by omega)
theorem BS_w {c m : Nat → Nat → Int32} {w : Nat → Nat} (h : BS c w m) : w 0 = 2 ∨ w 0 = 17 := by rcases h.1 with q | q <;> omega
end
