/-! the reference: its loops over watches, boys, sets of watches -/
def q32 (m m' : Nat → Nat → Int32) : Prop := (∀ y, y ≠ 75 → m' y = m y) ∧ (∀ f, f ≠ 32 → m' 75 f = m 75 f)
theorem q32.ls {m m' : Nat → Nat → Int32} (h : q32 m m') : ls m m' := ⟨fun y h1 _ => h.1 y h1, fun f h1 => h.2 f (by omega)⟩
theorem q32.rf (m : Nat → Nat → Int32) : q32 m m := ⟨fun _ _ => rfl, fun _ _ => rfl⟩
theorem q32.tr {a b d : Nat → Nat → Int32} (h : q32 a b) (h' : q32 b d) : q32 a d := ⟨fun y h1 => by rw [h'.1 y h1, h.1 y h1], fun f h1 => by rw [h'.2 f h1, h.2 f h1]⟩
/-- laid: a trial stands -/
def LD (m : Nat → Nat → Int32) (V K : Nat → Nat → Nat) (E : Nat → Nat) : Prop := GV V ∧ GK V K ∧ GE V E ∧ MV m 78 V ∧ MK m 85 0 V K ∧ ME m V E ∧ RD m false 0
theorem LD.q {m m' : Nat → Nat → Int32} {V K : Nat → Nat → Nat} {E : Nat → Nat} (h : LD m V K E) (q : q32 m m') : LD m' V K E := ⟨h.1, h.2.1, h.2.2.1, h.2.2.2.1.fr (q.1 78 (by omega)), h.2.2.2.2.1.fr (q.1 85 (by omega)), fun b hb => by rw [q.1 86 (by omega)]; exact h.2.2.2.2.2.1 b hb, ⟨by rw [q.2 33 (by omega)]; exact h.2.2.2.2.2.2.1, fun z => by cases z⟩⟩
theorem LD.o {m m' : Nat → Nat → Int32} {V K : Nat → Nat → Nat} {E : Nat → Nat} (h : LD m V K E) (q : ∀ y, y < 87 → m' y = m y) : LD m' V K E := ⟨h.1, h.2.1, h.2.2.1, h.2.2.2.1.fr (q 78 (by omega)), h.2.2.2.2.1.fr (q 85 (by omega)), fun b hb => by rw [q 86 (by omega)]; exact h.2.2.2.2.2.1 b hb, ⟨by rw [q 75 (by omega)]; exact h.2.2.2.2.2.2.1, fun z => by cases z⟩⟩
def onesN (s : Nat) : Nat := cnt (bits s) 12
def sbs (V K : Nat → Nat → Nat) (s : Nat) : Nat := sumN (fun k => if s.testBit k then stl V (KA K allS) (V 1) k else stl V K (V 1) k) (V 20 2)
def bst (V K : Nat → Nat → Nat) (A mi : Nat) : Nat → Int
  | 0 => -2
  | s + 1 => if (s &&& A = 0 ∧ (bst V K A mi s < 0 ∨ onesN s < onesN (bst V K A mi s).toNat)) ∧ sbs V K s ≤ mi then (s : Int) else bst V K A mi s
theorem bst_range {V K : Nat → Nat → Nat} {A mi : Nat} : ∀ s, bst V K A mi s = -2 ∨ (0 ≤ bst V K A mi s ∧ bst V K A mi s < s)
  | 0 => Or.inl rfl
  | s + 1 => by
    have := bst_range (V := V) (K := K) (A := A) (mi := mi) s
    unfold bst
    split
    · right; omega
    · omega
/-- the first greatest -/
def amx (f : Nat → Nat) : Nat → Int
  | 0 => -2
  | b + 1 => if amx f b < 0 ∨ f (amx f b).toNat < f b then (b : Int) else amx f b
theorem amx_range {f : Nat → Nat} : ∀ s, (amx f s = -2 ∧ s = 0) ∨ (0 ≤ amx f s ∧ amx f s < s)
  | 0 => Or.inl ⟨rfl, rfl⟩
  | s + 1 => by
    have := amx_range (f := f) s
    unfold amx
    split
    · right; omega
    · right; omega
/-- the first least of so many, one at the least -/
def amn (f : Nat → Nat) : Nat → Nat
  | 0 => 0
  | b + 1 => if b = 0 ∨ f b < f (amn f b) then b else amn f b
theorem amn_lt {f : Nat → Nat} : ∀ s, amn f s ≤ s
  | 0 => Nat.le_refl _
  | s + 1 => by
    have := amn_lt (f := f) s
    unfold amn
    split <;> omega
/-- the worst: the first greatest of a row that begins with the least -/
def wst (f : Nat → Int) : Nat → Nat
  | 0 => 0
  | b + 1 => if f (wst f b) < f b then b else wst f b
theorem wst_lt {f : Nat → Int} : ∀ s, wst f s ≤ s
  | 0 => Nat.le_refl _
  | s + 1 => by
    have := wst_lt (f := f) s
    unfold wst
    split <;> omega
def bmW (f : Nat → Bool) (N : Nat) : Nat := fm f N
def oS (V K : Nat → Nat → Nat) (b : Nat) : Nat := sumN (fun k => if K 0 k = b then lNw V K k else 0) (V 20 2)
section
variable {c : Nat → Nat → Int32} {j : Nat → Nat → Int64} {w : Nat → Nat} {m : Nat → Nat → Int32} {n : Nat → Nat → Int64} {V K : Nat → Nat → Nat} {E L : Nat → Nat} {S : Nat → Bool}
theorem m_stl (h : LD m V K E) {k : Nat} (hk : k < V 20 2) : ∃ m', X11_stolenOf 75 (nI k) (enc c j w m n) = some (nI (stl V K E k), enc c j w m' n) ∧ q32 m m' := by
  obtain ⟨m', e, f1, f2, -⟩ := m_stolen (c := c) (j := j) (w := w) (m := m) (n := n) h.1 h.2.1 h.2.2.1 h.2.2.2.1 h.2.2.2.2.1 h.2.2.2.2.2.1 hk h.2.2.2.2.2.2
  rw [if_neg (by decide)] at e
  exact ⟨m', e, f1, f2⟩
theorem m_ldS (h : MN m V K) : ∃ m', X11_lay 75 82 0 (enc c j w m n) = some (enc c j w m' n) ∧ ls m m' ∧ (∀ y, 86 < y → m' y = m y) ∧ LD m' V K (V 1) ∧ RC m' V allS := by
  obtain ⟨m1, e1, l1, o1, c1, d1, k1, p1⟩ := m_layS (c := c) (j := j) (w := w) (m := m) (n := n) h (s := 0) (by omega)
  rw [eS0] at p1
  exact ⟨m1, e1, l1, o1, ⟨h.1, h.2.1, GE1 h.1, (h.mf l1.mf).2.2.1, k1, p1, d1⟩, c1⟩
theorem MK_or (hK : MK m 85 0 V K) (g : GV V) (gk : GK V K) {B : Nat} (hB : B < 4096) : MK (va_up m 85 (upd (m 85) 24 (m 85 24 ||| nI B))) 85 0 V (KA K (bits B)) := by
  have g12 := g.1.2.2.1
  obtain ⟨k1, M, hM, k2, k3⟩ := hK
  refine ⟨fun i hi => ?_, M ||| B, Nat.or_lt_two_pow (n := 12) hM hB, ?_, fun i hi => ?_⟩
  · rw [vup_at, upd_ne (by omega), upd_ne (by omega)]
    unfold KA; rw [if_neg (by omega), if_neg (by omega)]; exact k1 i hi
  · rw [vup_at, upd_at, show m 85 24 = nI M from k2, N_or]
  · rw [Nat.testBit_or, k3 i hi]
    unfold KA bits
    cases e : B.testBit i with
    | true => simp
    | false => simp
theorem m_stolenWith (h : MN m V K) {B : Nat} (hB : B < 4096) : ∃ m', X11_stolenWith 75 (nI B) (enc c j w m n) = some (nI (swS V K (bits B)), enc c j w m' n) ∧ mf m m' := by
  have g := h.1
  have g12 := g.1.2.2.1
  obtain ⟨m1, e1, l1, -, d1, -⟩ := m_ldS (c := c) (j := j) (w := w) (m := m) (n := n) h
  have k2 := MK_or d1.2.2.2.2.1 g h.2.1 hB
  generalize hx : upd (m1 85) 24 (m1 85 24 ||| nI B) = x at k2
  have d2 : LD (va_up m1 85 x) V (KA K (bits B)) (V 1) := ⟨g, GKA h.2.1, GE1 g, (h.mf (ls_85 l1 x).mf).2.2.1, k2, ME_85 d1.2.2.2.2.2.1 x, RD_85 d1.2.2.2.2.2.2 x⟩
  have L := loop_up (z := fun _ _ _ _ => none) (s := X11_stolenWith_L24_s) (V 20 2) (fun i f => ∀ m3, q32 (va_up m1 85 x) m3 → ∃ m', f 75 (nI (sumN (stl V (KA K (bits B)) (V 1)) i)) (nI i) (enc c j w m3 n) = some (nI (swS V K (bits B)), enc c j w m' n) ∧ q32 (va_up m1 85 x) m') ?_ ?_ 5000 0 (Nat.zero_le _) (by omega) _ (q32.rf _)
  · obtain ⟨m', e', q'⟩ := L
    refine ⟨m', ?_, ((ls_85 l1 x).tr q'.ls).mf⟩
    unfold X11_stolenWith
    rw [R75_19, ob_some, cVv75, e1, ob_some, R75_24, ob_some, show aI (enc c j w m1 n) 85 24 = some (m1 85 24) from M85 (i := 24) (by omega), ob_some, show sI (enc c j w m1 n) 85 24 (m1 85 24 ||| nI B) = _ from S85 (i := 24) (by omega), ob_some, hx]
    exact e'
  · intro i f hi ih m3 q3
    have d3 := d2.q q3
    obtain ⟨m4, e4, q4⟩ := m_stl (c := c) (j := j) (w := w) (m := m3) (n := n) d3 hi
    unfold X11_stolenWith_L24_s
    rw [R75_15, ob_some, rW d3.2.2.2.1, ob_some, if_neg (by rw [N_le (by omega) (by omega)]; omega), cV75, e4, bd_eq, pin_eq, N_add, show nI i + 1 = nI (i + 1) from N_add i 1]
    exact ih m4 (q3.tr q4)
  · intro f m3 q3
    refine ⟨m3, ?_, q3⟩
    unfold X11_stolenWith_L24_s
    rw [R75_15, ob_some, rW (d2.q q3).2.2.2.1, ob_some, if_pos (by rw [N_le (by omega) (by omega)]; omega)]
    rfl
theorem m_ones {s : Nat} (hs : s < 4096) (h : Hp) : X11_ones (nI s) h = some (nI (onesN s), h) := by
  refine loop_up (z := fun _ _ _ _ => none) (s := X11_ones_L4_s) 12 (fun i f => f (nI s) (nI (cnt (bits s) i)) (nI i) h = some (nI (onesN s), h)) ?_ ?_ 5000 0 (Nat.zero_le _) (by omega)
  · intro i f hi ih
    unfold X11_ones_L4_s
    rw [show (12 : Int32) = nI 12 from rfl, if_neg (by rw [N_le (by omega) (by omega)]; omega), N_bit (by omega) (by omega), pin_eq, show nI i + 1 = nI (i + 1) from N_add i 1]
    rw [cnt_succ] at ih
    cases e : s.testBit i with
    | true =>
      rw [show bits s i = true from e] at ih
      rw [if_pos rfl, show nI (cnt (bits s) i) + 1 = nI (cnt (bits s) i + 1) from N_add _ 1]; exact ih
    | false =>
      rw [show bits s i = false from e] at ih
      rw [if_neg (by decide), show nI (cnt (bits s) i) + 0 = nI (cnt (bits s) i + 0) from N_add _ 0]; exact ih
  · intro f
    unfold X11_ones_L4_s
    rw [if_pos (by decide)]
    rfl
theorem onesN_le (s : Nat) : onesN s ≤ 12 := cnt_le 12
theorem m_sbs (g : GV V) (gk : GK V K) (hV : MV m 78 V) (h1 : ∀ k, k < V 20 2 → m 93 k = nI (stl V K (V 1) k)) (h2 : ∀ k, k < V 20 2 → m 94 k = nI (stl V (KA K allS) (V 1) k)) {s : Nat} (hs : s < 4096) : X11_stolenBySet 75 (nI s) (enc c j w m n) = some (nI (sbs V K s), enc c j w m n) := by
  have g12 := g.1.2.2.1
  refine loop_up (z := fun _ _ _ _ _ => none) (s := X11_stolenBySet_L4_s) (V 20 2) (fun i f => f 75 (nI s) (nI (sumN (fun k => if s.testBit k then stl V (KA K allS) (V 1) k else stl V K (V 1) k) i)) (nI i) (enc c j w m n) = some (nI (sbs V K s), enc c j w m n)) ?_ ?_ 5000 0 (Nat.zero_le _) (by omega)
  · intro i f hi ih
    unfold X11_stolenBySet_L4_s X11_stolenBySet_B38
    rw [R75_15, ob_some, rW hV, ob_some, if_neg (by rw [N_le (by omega) (by omega)]; omega), m_hasBit (by omega) (by omega), bd_eq, show nI i + 1 = nI (i + 1) from N_add i 1]
    rw [sumN] at ih
    cases e : s.testBit i with
    | true =>
      rw [e, if_pos rfl] at ih
      rw [if_neg (show ¬ (if true = true then (1 : Int32) else 0) = 0 by decide), R75_36, ob_some, M94 (by omega), ob_some, h2 i hi, pin_eq, N_add]
      exact ih
    | false =>
      rw [e, if_neg (by decide)] at ih
      rw [if_pos (show (if false = true then (1 : Int32) else 0) = 0 by decide), R75_35, ob_some, M93 (by omega), ob_some, h1 i hi, pin_eq, N_add]
      exact ih
  · intro f
    unfold X11_stolenBySet_L4_s
    rw [R75_15, ob_some, rW hV, ob_some, if_pos (by rw [N_le (by omega) (by omega)]; omega)]
    rfl
theorem pow12 (g : GV V) : 2 ^ V 20 2 ≤ 4096 := by
  calc 2 ^ V 20 2 ≤ 2 ^ 12 := Nat.pow_le_pow_right (by omega) g.1.2.2.1
    _ = 4096 := rfl
theorem sbs_le (g : GV V) (gk : GK V K) (s : Nat) : sbs V K s ≤ 12 * 160 := by
  have g12 := g.1.2.2.1
  have := sumN_b (f := fun k => if s.testBit k then stl V (KA K allS) (V 1) k else stl V K (V 1) k) (q := 160) (N := V 20 2) (fun i hi => by
    show (if _ then _ else _) ≤ _
    split
    · exact stl_le g (GKA gk) (GE1 g) hi
    · exact stl_le g gk (GE1 g) hi)
  unfold sbs; omega
theorem m_attL (h : MN m V K) (h1 : ∀ k, k < V 20 2 → m 93 k = nI (stl V K (V 1) k)) (h2 : ∀ k, k < V 20 2 → m 94 k = nI (stl V (KA K allS) (V 1) k)) {A mi : Nat} (hA : A < 4096) (hA2 : m 82 24 = nI A) (hm : mi < 1000) : X11_attendFor_L115 5000 75 (nI mi) (-2) 0 (enc c j w m n) = some (iI (bst V K A mi (2 ^ V 20 2)), enc c j w m n) := by
  have g := h.1
  have g12 := g.1.2.2.1
  have hp := pow12 g
  refine loop_up (z := fun _ _ _ _ _ => none) (s := X11_attendFor_L115_s) (2 ^ V 20 2) (fun i f => f 75 (nI mi) (iI (bst V K A mi i)) (nI i) (enc c j w m n) = some (iI (bst V K A mi (2 ^ V 20 2)), enc c j w m n)) ?_ ?_ 5000 0 (Nat.zero_le _) (by omega)
  · intro i f hi ih
    have hr := bst_range (V := V) (K := K) (A := A) (mi := mi) i
    have hand : i &&& A ≤ i := Nat.and_le_left
    have hz : iI (bst V K A mi i) < 0 ↔ bst V K A mi i < 0 := Z_lt (b := 0) (by omega) (by omega) (by omega) (by omega)
    have hsb := sbs_le g h.2.1 i
    have take : (i &&& A = 0 ∧ (bst V K A mi i < 0 ∨ onesN i < onesN (bst V K A mi i).toNat)) → X11_attendFor_B156 f 75 (nI mi) (iI (bst V K A mi i)) (nI i) (enc c j w m n) = some (iI (bst V K A mi (2 ^ V 20 2)), enc c j w m n) := by
      intro hc
      unfold X11_attendFor_B156 X11_attendFor_B169
      rw [cV75, m_sbs g h.2.1 h.2.2.1 h1 h2 (by omega), bd_eq, show nI i + 1 = nI (i + 1) from N_add i 1]
      rw [bst] at ih
      by_cases e : sbs V K i ≤ mi
      · rw [if_pos ⟨hc, e⟩] at ih
        rw [if_neg (by rw [N_lt (by omega) (by omega)]; omega), nI_iI i]; exact ih
      · rw [if_neg (fun z => e z.2)] at ih
        rw [if_pos (by rw [N_lt (by omega) (by omega)]; omega)]; exact ih
    have skip : ¬ (i &&& A = 0 ∧ (bst V K A mi i < 0 ∨ onesN i < onesN (bst V K A mi i).toNat)) → X11_attendFor_B169 f 75 (nI mi) (iI (bst V K A mi i)) (nI i) (enc c j w m n) = some (iI (bst V K A mi (2 ^ V 20 2)), enc c j w m n) := by
      intro hc
      unfold X11_attendFor_B169
      rw [show nI i + 1 = nI (i + 1) from N_add i 1]
      rw [bst, if_neg (fun z => hc z.1)] at ih
      exact ih
    unfold X11_attendFor_L115_s
    rw [cV75, m_allW g h.2.2.1, bd_eq, if_neg (by rw [N_lt (by omega) (by omega)]; omega), R75_19, ob_some, show aI (enc c j w m n) 82 24 = some (m 82 24) from M82 (i := 24) (by omega), ob_some, hA2, N_and]
    by_cases e : i &&& A = 0
    · rw [if_pos (by rw [e]; rfl)]
      by_cases e2 : bst V K A mi i < 0
      · rw [if_pos (hz.mpr e2)]; exact take ⟨e, Or.inl e2⟩
      · rw [if_neg (fun z => e2 (hz.mp z)), m_ones (by omega), bd_eq, show iI (bst V K A mi i) = nI (bst V K A mi i).toNat by rw [nI_iI]; congr 1; omega, m_ones (by omega), bd_eq]
        have o1 := onesN_le i
        have o2 := onesN_le (bst V K A mi i).toNat
        rw [show nI (bst V K A mi i).toNat = iI (bst V K A mi i) by rw [nI_iI]; congr 1; omega]
        by_cases e3 : onesN i < onesN (bst V K A mi i).toNat
        · rw [if_pos (by rw [N_lt (by omega) (by omega)]; exact e3)]; exact take ⟨e, Or.inr e3⟩
        · rw [if_neg (by rw [N_lt (by omega) (by omega)]; exact e3)]; exact skip fun z => z.2.elim e2 e3
    · rw [if_neg (by rw [show (0 : Int32) = nI 0 from rfl, N_inj (by omega) (by omega)]; exact e)]
      exact skip fun z => e z.1
  · intro f
    unfold X11_attendFor_L115_s
    rw [cV75, m_allW g h.2.2.1, bd_eq, if_pos (by rw [N_lt (by omega) (by omega)]; have := Nat.one_le_two_pow (n := V 20 2); omega)]
theorem MK_all (hK : MK m 85 0 V K) (g : GV V) (gk : GK V K) : MK (va_up m 85 (upd (m 85) 24 (nI (2 ^ V 20 2 - 1)))) 85 0 V (KA K allS) := by
  have g12 := g.1.2.2.1
  have hp := pow12 g
  obtain ⟨k1, M, hM, k2, k3⟩ := hK
  refine ⟨fun i hi => ?_, 2 ^ V 20 2 - 1, by omega, ?_, fun i hi => ?_⟩
  · rw [vup_at, upd_ne (by omega), upd_ne (by omega)]
    unfold KA; rw [if_neg (by omega), if_neg (by omega)]; exact k1 i hi
  · rw [vup_at, upd_at]
  · rw [Nat.testBit_two_pow_sub_one]
    unfold KA allS; simp [hi]
theorem m_attFor (h : MN m V K) {mi : Nat} (hm : mi < 1000) : ∃ m1 m' A, A < 4096 ∧ (∀ k, k < V 20 2 → A.testBit k = (K 2 k == 1)) ∧ X11_lay 75 82 0 (enc c j w m n) = some (enc c j w m1 n) ∧ X11_attendFor_L42 5000 75 (nI mi) 0 (enc c j w m1 n) = some (iI (bst V K A mi (2 ^ V 20 2)), enc c j w m' n) ∧ mf m m' := by
  have g := h.1
  have g12 := g.1.2.2.1
  obtain ⟨k1, A, hA, k2, k3⟩ := h.2.2.2.2
  obtain ⟨m1, e1, l1, -, d1, -⟩ := m_ldS (c := c) (j := j) (w := w) (m := m) (n := n) h
  have fin : ∀ m2, mf m m2 → LD m2 V (KA K allS) (V 1) → (∀ k, k < V 20 2 → m2 93 k = nI (stl V K (V 1) k)) → ∃ m', X11_attendFor_L82 5000 75 (nI mi) 0 (enc c j w m2 n) = some (iI (bst V K A mi (2 ^ V 20 2)), enc c j w m' n) ∧ mf m m' := by
    intro m2 f2 d2 a2
    refine loop_up (z := fun _ _ _ _ => none) (s := X11_attendFor_L82_s) (V 20 2) (fun i f => ∀ m3, mf m m3 → LD m3 V (KA K allS) (V 1) → (∀ k, k < V 20 2 → m3 93 k = nI (stl V K (V 1) k)) → (∀ k, k < i → m3 94 k = nI (stl V (KA K allS) (V 1) k)) → ∃ m', f 75 (nI mi) (nI i) (enc c j w m3 n) = some (iI (bst V K A mi (2 ^ V 20 2)), enc c j w m' n) ∧ mf m m') ?_ ?_ 5000 0 (Nat.zero_le _) (by omega) m2 f2 d2 a2 (fun k hk => absurd hk (Nat.not_lt_zero _))
    · intro i f hi ih m3 f3 d3 a3 b3
      obtain ⟨m4, e4, q4⟩ := m_stl (c := c) (j := j) (w := w) (m := m3) (n := n) d3 hi
      unfold X11_attendFor_L82_s
      rw [R75_15, ob_some, rW d3.2.2.2.1, ob_some, if_neg (by rw [N_le (by omega) (by omega)]; omega), R75_36, ob_some, cV75, e4, bd_eq, S94 (by omega), ob_some, show nI i + 1 = nI (i + 1) from N_add i 1]
      refine ih _ ?_ ((d3.q q4).o fun y hy => vup_ne _ _ (by omega)) (fun k hk => ?_) fun k hk => ?_
      · exact f3.tr ⟨fun y h1 h2 => by rw [vup_ne _ _ (by omega)]; exact q4.1 y (by omega), fun f h1 h2 => by rw [vup_ne _ _ (by omega)]; exact q4.2 f (by omega)⟩
      · rw [vup_ne _ _ (by omega), q4.1 93 (by omega)]; exact a3 k hk
      · rw [vup_at]
        by_cases e : k = i
        · subst e; rw [upd_at]
        · rw [upd_ne e, q4.1 94 (by omega)]; exact b3 k (by omega)
    · intro f m3 f3 d3 a3 b3
      refine ⟨m3, ?_, f3⟩
      unfold X11_attendFor_L82_s
      rw [R75_15, ob_some, rW d3.2.2.2.1, ob_some, if_pos (by rw [N_le (by omega) (by omega)]; omega)]
      exact m_attL (h.mf f3) a3 b3 hA (by rw [f3.1 82 (by omega) (by omega)]; exact k2) hm
  have L := loop_up (z := fun _ _ _ _ => none) (s := X11_attendFor_L42_s) (V 20 2) (fun i f => ∀ m3, mf m m3 → LD m3 V K (V 1) → (∀ k, k < i → m3 93 k = nI (stl V K (V 1) k)) → ∃ m', f 75 (nI mi) (nI i) (enc c j w m3 n) = some (iI (bst V K A mi (2 ^ V 20 2)), enc c j w m' n) ∧ mf m m') ?_ ?_ 5000 0 (Nat.zero_le _) (by omega) m1 l1.mf d1 (fun k hk => absurd hk (Nat.not_lt_zero _))
  · obtain ⟨m', e', f'⟩ := L
    exact ⟨m1, m', A, hA, k3, e1, e', f'⟩
  · intro i f hi ih m3 f3 d3 a3
    obtain ⟨m4, e4, q4⟩ := m_stl (c := c) (j := j) (w := w) (m := m3) (n := n) d3 hi
    unfold X11_attendFor_L42_s
    rw [R75_15, ob_some, rW d3.2.2.2.1, ob_some, if_neg (by rw [N_le (by omega) (by omega)]; omega), R75_35, ob_some, cV75, e4, bd_eq, S93 (by omega), ob_some, show nI i + 1 = nI (i + 1) from N_add i 1]
    refine ih _ ?_ ((d3.q q4).o fun y hy => vup_ne _ _ (by omega)) fun k hk => ?_
    · exact f3.tr ⟨fun y h1 h2 => by rw [vup_ne _ _ (by omega)]; exact q4.1 y (by omega), fun f h1 h2 => by rw [vup_ne _ _ (by omega)]; exact q4.2 f (by omega)⟩
    · rw [vup_at]
      by_cases e : k = i
      · subst e; rw [upd_at]
      · rw [upd_ne e, q4.1 93 (by omega)]; exact a3 k (by omega)
  · intro f m3 f3 d3 a3
    unfold X11_attendFor_L42_s
    rw [R75_15, ob_some, rW d3.2.2.2.1, ob_some, if_pos (by rw [N_le (by omega) (by omega)]; omega), R75_24, ob_some, cV75, m_allW g d3.2.2.2.1, bd_eq, show sI (enc c j w m3 n) 85 24 (nI (2 ^ V 20 2 - 1)) = _ from S85 (i := 24) (by omega), ob_some]
    have k4 := MK_all d3.2.2.2.2.1 g h.2.1
    generalize upd (m3 85) 24 (nI (2 ^ V 20 2 - 1)) = x at *
    refine fin _ ⟨fun y h1 h2 => by rw [vup_ne _ _ (by omega)]; exact f3.1 y h1 h2, fun f h1 h2 => by rw [vup_ne _ _ (by omega)]; exact f3.2 f h1 h2⟩ ⟨g, GKA h.2.1, GE1 g, d3.2.2.2.1.fr (vup_ne _ _ (by omega)), k4, ME_85 d3.2.2.2.2.2.1 x, RD_85 d3.2.2.2.2.2.2 x⟩ fun k hk => by rw [vup_ne _ _ (by omega)]; exact a3 k hk
end
