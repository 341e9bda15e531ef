/-! the reference: what its calls rest on -/
theorem vup_up {α : Type} (m : Nat → α) (a : Nat) (x y : α) : va_up (va_up m a x) a y = va_up m a y := by
  funext z; simp only [va_up]; split <;> rfl
theorem vup_at {α : Type} (m : Nat → α) (a : Nat) (x : α) : va_up m a x a = x := by simp [va_up]
theorem vup_ne {α : Type} (m : Nat → α) {a b : Nat} (x : α) (h : b ≠ a) : va_up m a x b = m b := by simp [va_up, h]
def gd (m : Nat → Nat → Int32) : Nat → Nat → Int32 := va_up m 75 (upd (upd (m 75) 0 0) 11 0)
def tb (m : Nat → Nat → Int32) (x : Int32) : Nat → Nat → Int32 := va_up m 75 (upd (m 75) 11 x)
theorem tb_o {m : Nat → Nat → Int32} {x : Int32} {y : Nat} (h : y ≠ 75) : tb m x y = m y := by simp [tb, va_up, h]
theorem tb_f {m : Nat → Nat → Int32} {x : Int32} {f : Nat} (h : f ≠ 11) : tb m x 75 f = m 75 f := by simp [tb, va_up, upd, h]
theorem tb_t {m : Nat → Nat → Int32} {x : Int32} : tb m x 75 11 = x := by simp [tb, va_up, upd]
theorem gd_o {m : Nat → Nat → Int32} {y : Nat} (h : y ≠ 75) : gd m y = m y := by simp [gd, va_up, h]
theorem gd_f {m : Nat → Nat → Int32} {f : Nat} (h0 : f ≠ 0) (h : f ≠ 11) : gd m 75 f = m 75 f := by simp [gd, va_up, upd, h, h0]
theorem gd_t {m : Nat → Nat → Int32} : gd m 75 11 = 0 := by simp [gd, va_up, upd]
/-- a trial laid and sailed: what stays -/
def ls (m m' : Nat → Nat → Int32) : Prop := (∀ y, y ≠ 75 → (y < 85 ∨ 91 < y) → m' y = m y) ∧ (∀ f, (f < 31 ∨ 33 < f) → m' 75 f = m 75 f)
def mf (m m' : Nat → Nat → Int32) : Prop := (∀ y, 75 < y → y < 85 → m' y = m y) ∧ (∀ f, 1 ≤ f → f < 31 → m' 75 f = m 75 f)
theorem ls.mf {m m' : Nat → Nat → Int32} (h : ls m m') : mf m m' := ⟨fun y h1 h2 => h.1 y (by omega) (by omega), fun f h1 h2 => h.2 f (by omega)⟩
theorem ls.tr {a b d : Nat → Nat → Int32} (h : ls a b) (h' : ls b d) : ls a d := ⟨fun y h1 h2 => by rw [h'.1 y h1 h2, h.1 y h1 h2], fun f h1 => by rw [h'.2 f h1, h.2 f h1]⟩
theorem mf.tr {a b d : Nat → Nat → Int32} (h : mf a b) (h' : mf b d) : mf a d := ⟨fun y h1 h2 => by rw [h'.1 y h1 h2, h.1 y h1 h2], fun f h1 h2 => by rw [h'.2 f h1 h2, h.2 f h1 h2]⟩
theorem ls.rf (m : Nat → Nat → Int32) : ls m m := ⟨fun _ _ _ => rfl, fun _ _ => rfl⟩
theorem mf.rf (m : Nat → Nat → Int32) : mf m m := ⟨fun _ _ _ => rfl, fun _ _ _ => rfl⟩
/-- the reference: under way -/
def MN (m : Nat → Nat → Int32) (V K : Nat → Nat → Nat) : Prop := GV V ∧ GK V K ∧ MV m 78 V ∧ MK m 80 0 V (KT V) ∧ MK m 82 0 V K
theorem MN.mf {m m' : Nat → Nat → Int32} {V K : Nat → Nat → Nat} (h : MN m V K) (f : mf m m') : MN m' V K := ⟨h.1, h.2.1, h.2.2.1.fr (f.1 78 (by omega) (by omega)), h.2.2.2.1.fr (f.1 80 (by omega) (by omega)), h.2.2.2.2.fr (f.1 82 (by omega) (by omega))⟩
theorem MN.gd {m : Nat → Nat → Int32} {V K : Nat → Nat → Nat} (h : MN m V K) : MN (gd m) V K := ⟨h.1, h.2.1, h.2.2.1.fr (gd_o (by omega)), h.2.2.2.1.fr (gd_o (by omega)), h.2.2.2.2.fr (gd_o (by omega))⟩
theorem MN.tb {m : Nat → Nat → Int32} {V K : Nat → Nat → Nat} (h : MN m V K) (x : Int32) : MN (tb m x) V K := ⟨h.1, h.2.1, h.2.2.1.fr (tb_o (by omega)), h.2.2.2.1.fr (tb_o (by omega)), h.2.2.2.2.fr (tb_o (by omega))⟩
theorem wE_no {V : Nat → Nat → Nat} {E : Nat → Nat} {B : Nat → Bool} (h : ∀ i, B i = false) : ∀ i, wE V E B i = E
  | 0 => rfl
  | i + 1 => by unfold wE; rw [h i, wE_no h i]; rfl
theorem eS0 (V : Nat → Nat → Nat) : eS V 0 = V 1 := wE_no (fun i => Nat.zero_testBit i) _
theorem lS0 (V K : Nat → Nat → Nat) : lS V K 0 = lNw V K := by unfold lS lNw; rw [eS0]
theorem dwL_f (V K : Nat → Nat → Nat) (E : Nat → Nat) (s : Nat) : dwL V K E false s = stl V K E := by funext k; simp [dwL]
section
variable {c : Nat → Nat → Int32} {j : Nat → Nat → Int64} {w : Nat → Nat} {m : Nat → Nat → Int32} {n : Nat → Nat → Int64} {V K : Nat → Nat → Nat} {E L : Nat → Nat} {S : Nat → Bool}
theorem cV75 {α β : Type} {o : Option (α × Hp)} {Q : α → Hp → Option β} : cV (enc c j w m n) 75 11 o Q = bd o Q := cV_eq C75
theorem cVv75 {β : Type} {o : Option Hp} {Q : Hp → Option β} : cVv (enc c j w m n) 75 11 o Q = o.bind Q := cVv_eq C75
theorem m_good : X11_good 75 (enc c j w m n) = some (enc c j w (gd m) n) := by
  unfold X11_good gd
  rw [P75_0, ob_some, P75_11, ob_some, vup_up, vup_at]
theorem m_no {x : Int32} : X11_no 75 x (enc c j w m n) = some (-1, enc c j w (tb m x) n) := by
  unfold X11_no tb
  rw [P75_11, ob_some]
theorem m_isNot {x : Int32} : X11_isNot 75 x (enc c j w m n) = some (0, enc c j w (tb m x) n) := by
  unfold X11_isNot tb
  rw [P75_11, ob_some, rZ_0]
theorem rB (h : MV m 78 V) : aI (enc c j w m n) 78 2 = some (nI (V 20 0)) := by
  rw [show (2 : Int32) = nI 2 from rfl, M78 (by omega), show m 78 2 = _ from h.2.1 0 (by omega)]
theorem rO (h : MV m 78 V) : aI (enc c j w m n) 78 3 = some (nI (V 20 1)) := by
  rw [show (3 : Int32) = nI 3 from rfl, M78 (by omega), show m 78 3 = _ from h.2.1 1 (by omega)]
theorem rW (h : MV m 78 V) : aI (enc c j w m n) 78 4 = some (nI (V 20 2)) := by
  rw [show (4 : Int32) = nI 4 from rfl, M78 (by omega), show m 78 4 = _ from h.2.1 2 (by omega)]
theorem rN (h : MV m 78 V) : aI (enc c j w m n) 78 5 = some (nI (V 20 3)) := by
  rw [show (5 : Int32) = nI 5 from rfl, M78 (by omega), show m 78 5 = _ from h.2.1 3 (by omega)]
theorem rS (h : MV m 78 V) : aI (enc c j w m n) 78 6 = some (nI (V 20 4)) := by
  rw [show (6 : Int32) = nI 6 from rfl, M78 (by omega), show m 78 6 = _ from h.2.1 4 (by omega)]
theorem rU (h : MV m 78 V) : aI (enc c j w m n) 78 7 = some (nI (V 20 5)) := by
  rw [show (7 : Int32) = nI 7 from rfl, M78 (by omega), show m 78 7 = _ from h.2.1 5 (by omega)]
theorem rF (h : MV m 78 V) : aI (enc c j w m n) 78 8 = some (nI (V 20 6)) := by
  rw [show (8 : Int32) = nI 8 from rfl, M78 (by omega), show m 78 8 = _ from h.2.1 6 (by omega)]
theorem m_layX (g : GV V) (hV : MV m 78 V) {a : Nat} (ha : a = 80 ∨ a = 82) (hK : MK m a 0 V K) {s : Nat} (hs : s < 65536) : ∃ m', X11_lay 75 a (nI s) (enc c j w m n) = some (enc c j w m' n) ∧ ls m m' ∧ (∀ y, 86 < y → m' y = m y) ∧ RC m' V allS ∧ RD m' false 0 ∧ MK m' 85 0 V K ∧ ME m' V (eS V s) := by
  have key : ∃ m', X11_lay 75 a (nI s) (enc c j w m n) = some (enc c j w m' n) ∧ (∀ y, y ≠ 75 → y ≠ 85 → y ≠ 86 → m' y = m y) ∧ (∀ f, f ≠ 31 → f ≠ 33 → m' 75 f = m 75 f) ∧ m' 75 31 = 0 ∧ m' 75 33 = 0 ∧ MK m' 85 0 V K ∧ ME m' V (eS V s) := by
    rcases ha with rfl | rfl
    · exact m_lay g hV (la := 25) rfl (by decide) (by decide) (by decide) (by decide) hK hs
    · exact m_lay g hV (la := 25) rfl (by decide) (by decide) (by decide) (by decide) hK hs
  obtain ⟨m', e, f1, f2, f3, f4, f5, f6⟩ := key
  exact ⟨m', e, ⟨fun y h1 h2 => f1 y h1 (by omega) (by omega), fun f h => f2 f (by omega) (by omega)⟩, fun y hy => f1 y (by omega) (by omega) (by omega), ⟨0, by omega, f3, fun i _ => by simp [allS]⟩, ⟨f4, fun h => by cases h⟩, f5, f6⟩
theorem m_layS (h : MN m V K) {s : Nat} (hs : s < 65536) : ∃ m', X11_lay 75 82 (nI s) (enc c j w m n) = some (enc c j w m' n) ∧ ls m m' ∧ (∀ y, 86 < y → m' y = m y) ∧ RC m' V allS ∧ RD m' false 0 ∧ MK m' 85 0 V K ∧ ME m' V (eS V s) := m_layX h.1 h.2.2.1 (Or.inr rfl) h.2.2.2.2 hs
theorem m_layT (h : MN m V K) {s : Nat} (hs : s < 65536) : ∃ m', X11_lay 75 80 (nI s) (enc c j w m n) = some (enc c j w m' n) ∧ ls m m' ∧ (∀ y, 86 < y → m' y = m y) ∧ RC m' V allS ∧ RD m' false 0 ∧ MK m' 85 0 V (KT V) ∧ ME m' V (eS V s) := m_layX h.1 h.2.2.1 (Or.inl rfl) h.2.2.2.1 hs
theorem m_sailX (g : GV V) (gk : GK V K) (ge : GE V E) (hV : MV m 78 V) (hK : MK m 85 0 V K) (hE : ME m V E) (hS : RC m V S) (hD : RD m false 0) {q : Nat} (hq : q ≤ V 20 2) : ∃ m', X11_sail 75 (nI q) (enc c j w m n) = some (enc c j w m' n) ∧ ls m m' ∧ RSail m' V K (stl V K E) S q := by
  obtain ⟨m', e, f1, f2, -, r⟩ := m_sail (c := c) (j := j) (w := w) (m := m) (n := n) g gk ge hV hK hE hS hD hq
  rw [dwL_f] at r
  exact ⟨m', e, ⟨fun y h1 h2 => f1 y h1 (by omega), fun f h => f2 f (by omega)⟩, r⟩
/-- lay and sail -/
theorem m_tryS (h : MN m V K) {s : Nat} (hs : s < 65536) : ∃ m1 m', X11_lay 75 82 (nI s) (enc c j w m n) = some (enc c j w m1 n) ∧ X11_sail 75 (nI (V 20 2)) (enc c j w m1 n) = some (enc c j w m' n) ∧ ls m m1 ∧ ls m m' ∧ RSail m' V K (lS V K s) allS (V 20 2) := by
  obtain ⟨m1, e1, l1, -, c1, d1, k1, p1⟩ := m_layS (c := c) (j := j) (w := w) (m := m) (n := n) h hs
  obtain ⟨m2, e2, l2, r2⟩ := m_sailX (c := c) (j := j) (w := w) (m := m1) (n := n) h.1 h.2.1 (GES h.1 s) (h.mf l1.mf).2.2.1 k1 p1 c1 d1 (Nat.le_refl _)
  exact ⟨m1, m2, e1, e2, l1, l1.tr l2, r2⟩
theorem m_tryT (h : MN m V K) {s : Nat} (hs : s < 65536) : ∃ m1 m', X11_lay 75 80 (nI s) (enc c j w m n) = some (enc c j w m1 n) ∧ X11_sail 75 (nI (V 20 2)) (enc c j w m1 n) = some (enc c j w m' n) ∧ ls m m1 ∧ ls m m' ∧ RSail m' V (KT V) (lS V (KT V) s) allS (V 20 2) := by
  obtain ⟨m1, e1, l1, -, c1, d1, k1, p1⟩ := m_layT (c := c) (j := j) (w := w) (m := m) (n := n) h hs
  obtain ⟨m2, e2, l2, r2⟩ := m_sailX (c := c) (j := j) (w := w) (m := m1) (n := n) h.1 (GKT h.1) (GES h.1 s) (h.mf l1.mf).2.2.1 k1 p1 c1 d1 (Nat.le_refl _)
  exact ⟨m1, m2, e1, e2, l1, l1.tr l2, r2⟩
theorem m_sailNow (h : MN m V K) : ∃ m', X11_sailNow 75 (enc c j w m n) = some (enc c j w m' n) ∧ ls m m' ∧ RSail m' V K (lNw V K) allS (V 20 2) := by
  obtain ⟨m1, m2, e1, e2, l1, l2, r2⟩ := m_tryS (c := c) (j := j) (w := w) (m := m) (n := n) h (s := 0) (by omega)
  rw [lS0] at r2
  refine ⟨m2, ?_, l2, r2⟩
  unfold X11_sailNow
  rw [R75_19, ob_some, cVv75, show (0 : Int32) = nI 0 from rfl, e1, ob_some, R75_15, ob_some, rW (h.mf l1.mf).2.2.1, ob_some, cVv75, e2, ob_some]
/-- squares -/
theorem m_down {e : Int} (h1 : -50000 < e) (h2 : e < 50000) (h : Hp) : X11_downBy (iI e) h = some (iI (e / 100), h) := by
  unfold X11_downBy
  have hz : (0 : Int32) ≤ iI e ↔ 0 ≤ e := Z_le (a := 0) (by omega) (by omega) (by omega) (by omega)
  by_cases he : 0 ≤ e
  · rw [if_pos (hz.mpr he), show (100 : Int32) = nI 100 from rfl, Z_div (by omega) (by omega) (by omega), Int.tdiv_eq_ediv_of_nonneg he]; rfl
  · rw [if_neg (fun y => he (hz.mp y)), Z_neg, show (100 : Int32) = nI 100 from rfl, show iI (-e) + nI 100 - 1 = iI (-e + 100 - 1) by rw [nI_iI, show (1 : Int32) = iI 1 from rfl, Z_add, Z_sub]; rfl, Z_div (by omega) (by omega) (by omega), Int.tdiv_eq_ediv_of_nonneg (by omega), Z_neg]
    congr 3
    show -((-e + 100 - 1) / 100) = e / 100
    omega
theorem m_sqAt {x y : Int} (h1 : -50000 < x ∧ x < 50000) (h2 : -50000 < y ∧ y < 50000) (h : Hp) : X11_squareAt (iI x) (iI y) h = some (iI (sqr x y), h) := by
  unfold X11_squareAt
  rw [m_down h1.1 h1.2, bd_eq, m_down h2.1 h2.2, bd_eq, show (300 : Int32) = iI 300 from rfl, show (1000 : Int32) = iI 1000 from rfl, Z_add, Z_mul, Z_add, Z_add]
  rfl
theorem th_lt (g : GV V) (hL : ∀ k, k < V 20 2 → L k ≤ 240) {b : Nat} (hb : b ≤ V 20 2) : (-50000 < pTE V K b ∧ pTE V K b < 50000) ∧ (-50000 < pTN V K L S b ∧ pTN V K L S b < 50000) := by
  have g12 := g.1.2.2.1
  exact ⟨bnd_lt (pTE_b g b hb) (by omega), bnd_lt (pTN_b g hL b hb) (by omega)⟩
theorem m_squareOf (g : GV V) (hL : ∀ k, k < V 20 2 → L k ≤ 240) {q i : Nat} (hs : RSail m V K L S q) (hq : q ≤ V 20 2) (hi : i ≤ q) : X11_squareOf 75 (nI i) (enc c j w m n) = some (iI (sqr (pE V K L i) (pN V K L i)), enc c j w m n) := by
  have g12 := g.1.2.2.1
  obtain ⟨b1, b2⟩ := sq_lt (K := K) g hL (b := i) (by omega)
  unfold X11_squareOf
  rw [R75_27, ob_some, M88 (by omega), ob_some, R75_28, ob_some, M89 (by omega), ob_some, (hs.2 i hi).1, (hs.2 i hi).2.1, m_sqAt b1 b2, bd_eq]
theorem m_thoughtOf (g : GV V) (hL : ∀ k, k < V 20 2 → L k ≤ 240) {q i : Nat} (hs : RSail m V K L S q) (hq : q ≤ V 20 2) (hi : i ≤ q) : X11_thoughtOf 75 (nI i) (enc c j w m n) = some (iI (sqr (pTE V K i) (pTN V K L S i)), enc c j w m n) := by
  have g12 := g.1.2.2.1
  obtain ⟨b1, b2⟩ := th_lt (K := K) (S := S) g hL (b := i) (by omega)
  unfold X11_thoughtOf
  rw [R75_29, ob_some, M90 (by omega), ob_some, R75_30, ob_some, M91 (by omega), ob_some, (hs.2 i hi).2.2.1, (hs.2 i hi).2.2.2, m_sqAt b1 b2, bd_eq]
theorem m_away {z : Int} (h1 : -1000000 < z) (h2 : z < 1000000) (h : Hp) : X11_away (iI z) h = some (iI (absI z), h) := by
  unfold X11_away absI
  have hz : (0 : Int32) ≤ iI z ↔ 0 ≤ z := Z_le (a := 0) (by omega) (by omega) (by omega) (by omega)
  rw [Z_neg]
  by_cases e : 0 ≤ z
  · rw [if_pos (hz.mpr e), if_pos e]
  · rw [if_neg (fun y => e (hz.mp y)), if_neg e]
theorem m_errorOf (g : GV V) (hL : ∀ k, k < V 20 2 → L k ≤ 240) {q i : Nat} (hs : RSail m V K L S q) (hq : q ≤ V 20 2) (hi : i ≤ q) : X11_errorOf 75 (nI i) (enc c j w m n) = some (iI (aptS V K L S i), enc c j w m n) := by
  have g12 := g.1.2.2.1
  obtain ⟨b1, b2⟩ := sq_lt (K := K) g hL (b := i) (by omega)
  obtain ⟨b3, b4⟩ := th_lt (K := K) (S := S) g hL (b := i) (by omega)
  unfold X11_errorOf
  rw [R75_27, ob_some, M88 (by omega), ob_some, R75_29, ob_some, M90 (by omega), ob_some, (hs.2 i hi).1, (hs.2 i hi).2.2.1, Z_sub, m_away (by omega) (by omega), bd_eq, R75_28, ob_some, M89 (by omega), ob_some, R75_30, ob_some, M91 (by omega), ob_some, (hs.2 i hi).2.1, (hs.2 i hi).2.2.2, Z_sub, m_away (by omega) (by omega), bd_eq, Z_add]
  rfl
theorem m_sumFirst {q : Nat} (hq : q ≤ 12) (hs : ∀ k, k < q → m 87 k = nI (L k)) : X11_stolenInFirst 75 (nI q) (enc c j w m n) = some (nI (sumN L q), enc c j w m n) := by
  refine loop_up (z := fun _ _ _ _ _ => none) (s := X11_stolenInFirst_L4_s) q (fun i f => f 75 (nI q) (nI (sumN L i)) (nI i) (enc c j w m n) = some (nI (sumN L q), enc c j w m n)) ?_ ?_ 5000 0 (Nat.zero_le _) (by omega)
  · intro i f hi ih
    unfold X11_stolenInFirst_L4_s
    rw [if_neg (by rw [N_le (by omega) (by omega)]; omega), R75_26, ob_some, M87 (by omega), ob_some, hs i hi, pin_eq, N_add, show nI i + 1 = nI (i + 1) from N_add i 1]
    exact ih
  · intro f
    unfold X11_stolenInFirst_L4_s
    rw [if_pos (by rw [N_le (by omega) (by omega)]; omega)]
theorem m_isShoal (g : GV V) (hV : MV m 78 V) {x : Int} (h1 : -2147483648 ≤ x) (h2 : x < 2147483648) : X11_isShoal 75 (iI x) (enc c j w m n) = some (if isSh V x then 1 else 0, enc c j w m n) := by
  have g6 := g.1.2.2.2.2.1
  refine loop_up (z := fun _ _ _ _ => none) (s := X11_isShoal_L2_s) (V 20 4) (fun i f => (∀ i', i' < i → ((V 6 i' : Nat) : Int) ≠ x) → f 75 (iI x) (nI i) (enc c j w m n) = some (if isSh V x then 1 else 0, enc c j w m n)) ?_ ?_ 5000 0 (Nat.zero_le _) (by omega) (fun i h => absurd h (Nat.not_lt_zero _))
  · intro i f hi ih hn
    obtain ⟨a, b, ha, hb, ea, eb, e6⟩ := hV.2.2.2.2.2.2.1 i hi
    unfold X11_isShoal_L2_s
    rw [R75_15, ob_some, rS hV, ob_some, if_neg (by rw [N_le (by omega) (by omega)]; omega), ob_some, show (54 : Int32) + 2 * nI i = nI (54 + 2 * i) from IX 54 i, M78 (by omega), ob_some, ob_some, show nI (54 + 2 * i) + 1 = nI (54 + 2 * i + 1) from N_add _ 1, M78 (by omega), ob_some, ea, eb, show (1000 : Int32) * (nI a + 300) + nI b + 300 = nI (V 6 i) by rw [e6, show (300 : Int32) = nI 300 from rfl, show (1000 : Int32) = nI 1000 from rfl, N_add, N_mul, N_add, N_add], show nI i + 1 = nI (i + 1) from N_add i 1]
    have hiff : nI (V 6 i) = iI x ↔ ((V 6 i : Nat) : Int) = x := by rw [nI_iI, Z_inj (by omega) (by omega) h1 h2]
    by_cases e : ((V 6 i : Nat) : Int) = x
    · rw [if_pos (hiff.mpr e), rZ_1, if_pos]
      unfold isSh; rw [List.any_eq_true]; exact ⟨i, List.mem_range.mpr hi, by simp [e]⟩
    · rw [if_neg (fun z => e (hiff.mp z))]
      refine ih fun i' hi' => ?_
      rcases Nat.lt_or_eq_of_le (Nat.le_of_lt_succ hi') with h1 | h1
      · exact hn i' h1
      · subst h1; exact e
  · intro f hn
    unfold X11_isShoal_L2_s
    rw [R75_15, ob_some, rS hV, ob_some, if_pos (by rw [N_le (by omega) (by omega)]; omega), rZ_0, if_neg]
    intro hh
    unfold isSh at hh; rw [List.any_eq_true] at hh
    obtain ⟨i, hi, e⟩ := hh
    exact hn i (List.mem_range.mp hi) (by simpa using e)
theorem sqT_b (g : GV V) (hL : ∀ k, k < V 20 2 → L k ≤ 240) {th : Bool} {b : Nat} (hb : b ≤ V 20 2) : -2147483648 ≤ sqT V K L S th b ∧ sqT V K L S th b < 2147483648 := by
  obtain ⟨b1, b2⟩ := sq_lt (K := K) g hL (b := b) hb
  obtain ⟨b3, b4⟩ := th_lt (K := K) (S := S) g hL (b := b) hb
  unfold sqT; cases th
  · exact sqr_b b1 b2
  · exact sqr_b b3 b4
theorem m_struck (g : GV V) (hV : MV m 78 V) (hL : ∀ k, k < V 20 2 → L k ≤ 240) (hs : RSail m V K L S (V 20 2)) : X11_struck 75 (enc c j w m n) = some (iI (stk V K L S false), enc c j w m n) := by
  have g12 := g.1.2.2.1
  refine loop_up (z := fun _ _ _ => none) (s := X11_struck_L2_s) (V 20 2 + 1) (fun i f => (∀ i', i' < i → isSh V (sqT V K L S false i') = false) → f 75 (nI i) (enc c j w m n) = some (iI (stk V K L S false), enc c j w m n)) ?_ ?_ 5000 0 (Nat.zero_le _) (by omega) (fun i h => absurd h (Nat.not_lt_zero _))
  · intro i f hi ih hn
    have hb := sqT_b (K := K) (S := S) (th := false) g hL (b := i) (by omega)
    unfold X11_struck_L2_s
    rw [R75_15, ob_some, rW hV, ob_some, if_neg (by rw [N_lt (by omega) (by omega)]; omega), cV75, m_squareOf g hL hs (Nat.le_refl _) (by omega), bd_eq, cV75, show sqr (pE V K L i) (pN V K L i) = sqT V K L S false i from rfl, m_isShoal g hV hb.1 hb.2, bd_eq, show nI i + 1 = nI (i + 1) from N_add i 1]
    cases e : isSh V (sqT V K L S false i) with
    | false =>
      rw [if_pos (show (if false = true then (1 : Int32) else 0) = 0 by decide)]
      refine ih fun i' hi' => ?_
      rcases Nat.lt_or_eq_of_le (Nat.le_of_lt_succ hi') with h1 | h1
      · exact hn i' h1
      · subst h1; exact e
    | true =>
      rw [if_neg (show ¬ (if true = true then (1 : Int32) else 0) = 0 by decide), nI_iI, show stk V K L S false = (i : Int) from fiF_at (p := fun i => isSh V (sqT V K L S false i)) e hn hi]
  · intro f hn
    unfold X11_struck_L2_s
    rw [R75_15, ob_some, rW hV, ob_some, if_pos (by rw [N_lt (by omega) (by omega)]; omega), show stk V K L S false = -2 from fiF_none hn]
    rfl
theorem m_fearedL (g : GV V) (hV : MV m 78 V) (hL : ∀ k, k < V 20 2 → L k ≤ 240) (hs : RSail m V K L S (V 20 2)) : X11_feared_L23 5000 75 0 (enc c j w m n) = some (iI (stk V K L S true), enc c j w m n) := by
  have g12 := g.1.2.2.1
  refine loop_up (z := fun _ _ _ => none) (s := X11_feared_L23_s) (V 20 2 + 1) (fun i f => (∀ i', i' < i → isSh V (sqT V K L S true i') = false) → f 75 (nI i) (enc c j w m n) = some (iI (stk V K L S true), enc c j w m n)) ?_ ?_ 5000 0 (Nat.zero_le _) (by omega) (fun i h => absurd h (Nat.not_lt_zero _))
  · intro i f hi ih hn
    have hb := sqT_b (K := K) (S := S) (th := true) g hL (b := i) (by omega)
    unfold X11_feared_L23_s
    rw [R75_15, ob_some, rW hV, ob_some, if_neg (by rw [N_lt (by omega) (by omega)]; omega), cV75, m_thoughtOf g hL hs (Nat.le_refl _) (by omega), bd_eq, cV75, show sqr (pTE V K i) (pTN V K L S i) = sqT V K L S true i from rfl, m_isShoal g hV hb.1 hb.2, bd_eq, show nI i + 1 = nI (i + 1) from N_add i 1]
    cases e : isSh V (sqT V K L S true i) with
    | false =>
      rw [if_pos (show (if false = true then (1 : Int32) else 0) = 0 by decide)]
      refine ih fun i' hi' => ?_
      rcases Nat.lt_or_eq_of_le (Nat.le_of_lt_succ hi') with h1 | h1
      · exact hn i' h1
      · subst h1; exact e
    | true =>
      rw [if_neg (show ¬ (if true = true then (1 : Int32) else 0) = 0 by decide), nI_iI, show stk V K L S true = (i : Int) from fiF_at (p := fun i => isSh V (sqT V K L S true i)) e hn hi]
  · intro f hn
    unfold X11_feared_L23_s
    rw [R75_15, ob_some, rW hV, ob_some, if_pos (by rw [N_lt (by omega) (by omega)]; omega), show stk V K L S true = -2 from fiF_none hn]
    rfl
theorem m_sets (g : GV V) (hV : MV m 78 V) : X11_sets 75 (enc c j w m n) = some (nI (2 ^ V 20 5), enc c j w m n) := by
  have g4 := g.1.2.2.2.2.2.1
  unfold X11_sets
  rw [R75_15, ob_some, rU hV, ob_some, show (1 : Int32) = nI 1 from rfl, N_shl (by omega), Nat.one_shiftLeft]
theorem m_allW (g : GV V) (hV : MV m 78 V) : X11_allWatches 75 (enc c j w m n) = some (nI (2 ^ V 20 2 - 1), enc c j w m n) := by
  have g12 := g.1.2.2.1
  unfold X11_allWatches
  rw [R75_15, ob_some, rW hV, ob_some, show (1 : Int32) = nI 1 from rfl, N_shl (by omega), Nat.one_shiftLeft, N_sub (Nat.one_le_two_pow)]
theorem m_in {a b x : Int32} (h : Hp) : X11_in x a b h = some (if ¬ x < a ∧ ¬ b < x then 1 else 0, h) := by
  unfold X11_in
  by_cases h1 : x < a
  · rw [if_pos h1, rZ_0, if_neg (fun z => z.1 h1)]
  · rw [if_neg h1]
    by_cases h2 : b < x
    · rw [if_pos h2, rZ_0, if_neg (fun z => z.2 h2)]
    · rw [if_neg h2, rZ_1, if_pos ⟨h1, h2⟩]
theorem m_looks (g : GV V) (gk : GK V K) (hV : MV m 78 V) (hK : MK m 85 0 V K) {k : Nat} (hk : k < V 20 2) : X11_looksOf 75 (nI k) (enc c j w m n) = some (nI (lkOf V K k), enc c j w m n) := by
  have hlt := lkOf_lt (K := K) g hk
  have e0 : fm (bits (lkOf V K k)) 8 = lkOf V K k := by
    apply Nat.eq_of_testBit_eq
    intro i
    rw [fm_bit]
    by_cases hi : i < 8
    · simp [hi, bits]
    · have h8 : (2 : Nat) ^ 8 ≤ 2 ^ i := Nat.pow_le_pow_right (by omega) (by omega)
      have : (lkOf V K k).testBit i = false := Nat.testBit_lt_two_pow (Nat.lt_of_lt_of_le hlt h8)
      simp [hi, this]
  have L := loop_up (z := fun _ _ _ _ _ => none) (s := X11_looksOf_L4_s) 8 (fun i f => f 75 (nI k) (nI (fm (bits (lkOf V K k)) i)) (nI (i + 1)) (enc c j w m n) = some (nI (fm (bits (lkOf V K k)) 8), enc c j w m n)) ?_ ?_ 5000 0 (Nat.zero_le _) (by omega)
  · rw [e0] at L; exact L
  · intro i f hi ih
    unfold X11_looksOf_L4_s X11_looksOf_B29
    rw [show (8 : Int32) = nI 8 from rfl, if_neg (by rw [N_lt (by omega) (by omega)]; omega), cV75, m_look g gk hV hK hk hi, bd_eq, pin_eq, pin_eq, show nI (i + 1) + 1 = nI (i + 2) from N_add _ 1]
    cases e : (lkOf V K k).testBit i with
    | true =>
      rw [if_neg (show ¬ (if true = true then (1 : Int32) else 0) = 0 by decide), show (nI (i + 1) - 1) = nI i from by rw [show (1 : Int32) = nI 1 from rfl, N_sub (by omega)]; rfl, show (1 : Int32) = nI 1 from rfl, N_shl (by omega), N_or]
      rw [show fm (bits (lkOf V K k)) (i + 1) = fm (bits (lkOf V K k)) i ||| 1 <<< i by rw [fm, show bits (lkOf V K k) i = true from e]; rfl] at ih
      exact ih
    | false =>
      rw [if_pos (show (if false = true then (1 : Int32) else 0) = 0 by decide), show (0 : Int32) = nI 0 from rfl, N_or, Nat.or_zero]
      rw [show fm (bits (lkOf V K k)) (i + 1) = fm (bits (lkOf V K k)) i by rw [fm, show bits (lkOf V K k) i = false from e]; rfl] at ih
      exact ih
  · intro f
    unfold X11_looksOf_L4_s
    rw [if_pos (by decide)]
end
