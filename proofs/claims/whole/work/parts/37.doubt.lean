/-! sets of unsure boys -/
def bits (s i : Nat) : Bool := s.testBit i
/-- how early boys are, supposing a set -/
def eS (V : Nat → Nat → Nat) (s : Nat) : Nat → Nat := wE V (V 1) (bits s) (V 20 5)
def lS (V K : Nat → Nat → Nat) (s : Nat) : Nat → Nat := stl V K (eS V s)
def sqS (V K : Nat → Nat → Nat) (n s : Nat) : Int := sqr (pE V K (lS V K s) n) (pN V K (lS V K s) n)
def allS : Nat → Bool := fun _ => true
def stkS (V K : Nat → Nat → Nat) (s : Nat) : Int := stk V K (lS V K s) allS false
def dl (f : Nat → Int) : Nat → List Int
  | 0 => []
  | s + 1 => if f s ∈ dl f s then dl f s else dl f s ++ [f s]
def KC (K : Nat → Nat → Nat) (k q : Nat) (r i : Nat) : Nat := if r = 1 ∧ i = k then q else K r i
def perS (V K : Nat → Nat → Nat) (N : Nat) : Nat := sumN (fun s => if stkS V K s = -2 then 0 else 1) N
def misf (V : Nat → Nat → Nat) (s : Nat) : Int := fiF (fun i => sqS V (KT V) (V 9 i) s != ((V 10 i : Nat) : Int)) (V 20 6)
def fitB (V : Nat → Nat → Nat) (s : Nat) : Bool := misf V s == -2
def fm (p : Nat → Bool) : Nat → Nat
  | 0 => 0
  | s + 1 => if p s then fm p s ||| (1 <<< s) else fm p s
theorem one_bit (N i : Nat) : (1 <<< N).testBit i = decide (i = N) := by
  rw [Nat.one_shiftLeft, Nat.testBit_two_pow]
  simp [eq_comm]
theorem fm_bit {p : Nat → Bool} : ∀ (N i : Nat), (fm p N).testBit i = (decide (i < N) && p i)
  | 0, i => by simp [fm]
  | N + 1, i => by
    unfold fm
    cases hp : p N with
    | false =>
      rw [if_neg (by simp), fm_bit N i]
      by_cases e : i = N
      · subst e; simp [hp]
      · rw [show decide (i < N + 1) = decide (i < N) by rw [decide_eq_decide]; omega]
    | true =>
      rw [if_pos rfl, Nat.testBit_or, fm_bit N i, one_bit]
      by_cases e : i = N
      · subst e; simp [hp]
      · rw [show decide (i < N + 1) = decide (i < N) by rw [decide_eq_decide]; omega]; simp [e]
theorem fm_lt {p : Nat → Bool} : ∀ N, fm p N < 2 ^ N
  | 0 => by simp [fm]
  | N + 1 => by
    have := fm_lt (p := p) N
    have h2 : 2 ^ N ≤ 2 ^ (N + 1) := Nat.pow_le_pow_right (by omega) (by omega)
    unfold fm
    split
    · apply Nat.or_lt_two_pow
      · omega
      · rw [Nat.one_shiftLeft]; exact Nat.pow_lt_pow_right (by omega) (by omega)
    · omega
theorem fm_zero {p : Nat → Bool} {N : Nat} : fm p N = 0 ↔ ∀ i, i < N → p i = false := by
  constructor
  · intro h i hi
    have := fm_bit (p := p) N i
    rw [h] at this
    simpa [hi] using this.symm
  · intro h
    apply Nat.eq_of_testBit_eq
    intro i
    rw [fm_bit]
    by_cases hi : i < N
    · simp [h i hi]
    · simp [hi]
def cnt (p : Nat → Bool) (N : Nat) : Nat := sumN (fun i => if p i then 1 else 0) N
def nth (p : Nat → Bool) (i : Nat) (N : Nat) : Int := if fiF (fun s => p s && cnt p s == i) N = -2 then -1 else fiF (fun s => p s && cnt p s == i) N
def orS (p : Nat → Bool) : Nat → Nat
  | 0 => 0
  | s + 1 => if p s then orS p s ||| s else orS p s
def anS (p : Nat → Bool) (a : Nat) : Nat → Nat
  | 0 => a
  | s + 1 => if p s then anS p a s &&& s else anS p a s
def lst (p : Nat → Bool) (f : Nat → Int) : Nat → List Int
  | 0 => []
  | s + 1 => if p s then lst p f s ++ [f s] else lst p f s
def mxF (a : Nat → Int) (len : Nat) : Nat → Nat
  | 0 => 0
  | i + 1 => max (mxF a len i) (sumN (fun j => if a i = a j then 1 else 0) len)
def mostL (l : List Int) : Nat := mxF (fun i => l.getD i 0) l.length l.length
def bfx (f : Nat → Nat) : Nat → Int × Nat
  | 0 => (-2, 0)
  | n + 1 => if (bfx f n).1 = -2 ∨ f n < (bfx f n).2 then ((n : Int), f n) else bfx f n
/-- what a fix leaves -/
def lefS (V : Nat → Nat → Nat) (n : Nat) : Nat := mostL (lst (fitB V) (sqS V (KT V) n) (2 ^ V 20 5))
def fs (c c' : Nat → Nat → Int32) : Prop := ∀ y, (y < 60 ∨ 67 < y) → c' y = c y
def fr (c c' : Nat → Nat → Int32) : Prop := ∀ y, (y < 59 ∨ 73 < y) → c' y = c y
theorem fs.fr {c c' : Nat → Nat → Int32} (h : fs c c') : fr c c' := fun y hy => h y (by omega)
theorem fs.tr {a b c : Nat → Nat → Int32} (h : fs a b) (h' : fs b c) : fs a c := fun y hy => by rw [h' y hy, h y hy]
theorem fr.tr {a b c : Nat → Nat → Int32} (h : fr a b) (h' : fr b c) : fr a c := fun y hy => by rw [h' y hy, h y hy]
theorem fr.rf (a : Nat → Nat → Int32) : fr a a := fun _ _ => rfl
/-- under way: a voyage is told, and now it is kept so -/
def CN (c : Nat → Nat → Int32) (w : Nat → Nat) (v : Nat) (V K : Nat → Nat → Nat) : Prop := isV v ∧ w 3 = v ∧ GV V ∧ RV c v V ∧ GK V K ∧ RK c 35 V K (V 1) ∧ c 35 2 = -1
theorem CN.fr {c c' : Nat → Nat → Int32} {w : Nat → Nat} {v : Nat} {V K : Nat → Nat → Nat} (h : CN c w v V K) (f : fr c c') : CN c' w v V K := by
  obtain ⟨h1, h2, h3, h4, h5, h6, h7⟩ := h
  exact ⟨h1, h2, h3, h4.fr h1 fun y _ _ => f y (by omega), h5, h6.fr (f 37 (by omega)) (f 39 (by omega)), by rw [f 35 (by omega)]; exact h7⟩
theorem GE1 {V : Nat → Nat → Nat} (g : GV V) : GE V (V 1) := fun b hb => (g.2.2.1 b hb).2
theorem GKT {V : Nat → Nat → Nat} (g : GV V) : GK V (KT V) := fun k hk => ⟨(g.2.2.2.2.1 k hk).1, (g.2.2.2.2.1 k hk).2.2.1, by simp [KT]⟩
theorem GES {V : Nat → Nat → Nat} (g : GV V) (s : Nat) : GE V (eS V s) := wE_le g (GE1 g) _ (Nat.le_refl _)
theorem GKC {V K : Nat → Nat → Nat} (gk : GK V K) {k q : Nat} (hq : q < 4) : GK V (KC K k q) := fun i hi => by
  refine ⟨?_, ?_, ?_⟩
  · unfold KC; rw [if_neg (by omega)]; exact (gk i hi).1
  · unfold KC; split
    · exact hq
    · exact (gk i hi).2.1
  · unfold KC; rw [if_neg (by omega)]; exact (gk i hi).2.2
theorem lS_le {V K : Nat → Nat → Nat} (g : GV V) (gk : GK V K) (s : Nat) : ∀ k, k < V 20 2 → lS V K s k ≤ 240 := fun k hk => Nat.le_trans (stl_le g gk (GES g s) hk) (by omega)
theorem bits16 {s : Nat} (hs : s < 65536) : ∀ k, k < 4 → ((nI s >>> (nI k &&& 31)) &&& 1) = (if bits s k then 1 else 0) := fun k hk => N_bit (by omega) (by omega)
theorem sets_lt {V : Nat → Nat → Nat} (g : GV V) : 2 ^ V 20 5 ≤ 16 := by
  have := g.1.2.2.2.2.2.1
  calc 2 ^ V 20 5 ≤ 2 ^ 4 := Nat.pow_le_pow_right (by omega) this
    _ = 16 := rfl
section
variable {c : Nat → Nat → Int32} {j : Nat → Nat → Int64} {w : Nat → Nat} {m : Nat → Nat → Int32} {n : Nat → Nat → Int64} {v : Nat} {V K : Nat → Nat → Nat} {E L : Nat → Nat} {S : Nat → Bool}
theorem c_sets (hv : isV v) (hw : w 3 = v) (g : GV V) (hV : RV c v V) : X3_sets 71 (enc c j w m n) = some (nI (2 ^ V 20 5), enc c j w m n) := by
  have g4 := g.1.2.2.2.2.2.1
  unfold X3_sets
  rw [F71_0, ob_some, F59_3, hw, ob_some, V_5 hv, ob_some, T_count (V_unsure hv), ob_some, show c (v + 11) 3 = nI (V 20 5) from hV.1 5 (by omega), show (1 : Int32) = nI 1 from rfl, N_shl (by omega), Nat.one_shiftLeft]
theorem c_supp (h : CN c w v V K) {s : Nat} (hs : s < 16) : ∃ c', X3_supposing 71 35 (nI s) (enc c j w m n) = some (63, enc c' j w m n) ∧ fs c c' ∧ RK c' 63 V K (eS V s) ∧ RS c' 63 V allS := by
  obtain ⟨hv, hw, g, hV, gk, hK, h2⟩ := h
  obtain ⟨c1, e1, f1, k1, s1⟩ := c_trialOf (c := c) (j := j) (w := w) (m := m) (n := n) now_K (by decide) g hK (RS_all g h2)
  have hV1 : RV c1 v V := hV.fr hv fun y _ _ => f1 y (by omega)
  obtain ⟨c2, e2, f2, k2⟩ := c_with (c := c1) (j := j) (w := w) (m := m) (n := n) hv hw trial_K g hV1 k1 (bits16 (by omega : s < 65536))
  refine ⟨c2, ?_, fun y hy => by rw [f2 y (by omega), f1 y (by omega)], k2, fun i hi => by rw [f2 63 (by decide)]; exact s1 i hi⟩
  unfold X3_supposing
  rw [F71_0, ob_some, cV_eq F59_is, e1, bd_eq, cV_eq F71_is, e2, bd_eq]
theorem c_asTold (hv : isV v) (hw : w 3 = v) (g : GV V) (hV : RV c v V) {s : Nat} (hs : s < 16) : ∃ c', X3_asTold 71 (nI s) (enc c j w m n) = some (63, enc c' j w m n) ∧ fs c c' ∧ RK c' 63 V (KT V) (eS V s) ∧ RS c' 63 V allS := by
  obtain ⟨c1, e1, f1, k1, s1⟩ := c_setAsTold (c := c) (j := j) (w := w) (m := m) (n := n) hv trial_K g hV
  have hV1 : RV c1 v V := hV.fr hv fun y _ _ => f1 y (by omega)
  obtain ⟨c2, e2, f2, k2⟩ := c_with (c := c1) (j := j) (w := w) (m := m) (n := n) hv hw trial_K g hV1 k1 (bits16 (by omega : s < 65536))
  refine ⟨c2, ?_, fun y hy => by rw [f2 y (by omega), f1 y (by omega)], k2, RS_all g (by rw [f2 63 (by decide)]; exact s1)⟩
  unfold X3_asTold
  rw [F71_0, ob_some, F59_2, ob_some, ob_some, F59_3, hw, ob_some, cVv_eq (K_is trial_K), e1, ob_some, F71_0, ob_some, F59_2, ob_some, cV_eq F71_is, e2, bd_eq]
/-- reckon, then sail: the ship stands where it comes to -/
theorem c_sailFor (hv : isV v) (hw : w 3 = v) (g : GV V) (gk : GK V K) (ge : GE V E) (hV : RV c v V) {kp : Nat} (hk : isK kp) (hK : RK c kp V K E) (hS : RS c kp V S) {b : Nat} (hb : b ≤ V 20 2) : ∃ c', X6_sailFor 59 kp (nI b) (enc c j w m n) = some (60, enc c' j w m n) ∧ (∀ y, y ≠ 60 → y ≠ 62 → c' y = c y) ∧ RSh c' (pE V K (stl V K E) b) (pN V K (stl V K E) b) (pTE V K b) (pTN V K (stl V K E) S b) ∧ (∀ k, k < V 20 2 → c' 62 k = nI (stl V K E k)) := by
  obtain ⟨c1, e1, f1, l1⟩ := c_reckon (c := c) (j := j) (w := w) (m := m) (n := n) hv hw hk g gk ge hV hK
  have hV1 : RV c1 v V := hV.fr hv fun y _ _ => f1 y (by omega)
  have hK1 : RK c1 kp V K E := hK.fr (f1 _ (by rcases hk with rfl | rfl | rfl | rfl | rfl <;> decide)) (f1 _ (by rcases hk with rfl | rfl | rfl | rfl | rfl <;> decide))
  have hS1 : RS c1 kp V S := fun i hi => by rw [f1 kp (by rcases hk with rfl | rfl | rfl | rfl | rfl <;> decide)]; exact hS i hi
  obtain ⟨c2, e2, f2, s2⟩ := c_sail (c := c1) (j := j) (w := w) (m := m) (n := n) hv hw hk g gk hV1 hK1 hS1 l1 (a := 0) (Nat.zero_le _) hb (Or.inl rfl)
  refine ⟨c2, ?_, fun y hy hy' => by rw [f2 y hy, f1 y hy'], s2, fun k hk => by rw [f2 62 (by omega)]; exact l1 k hk⟩
  unfold X6_sailFor
  rw [cVv_eq F59_is, e1, ob_some, cVv_eq F59_is, show (0 : Int32) = nI 0 from rfl, e2, ob_some, F59_0, ob_some]
theorem sq_lt (g : GV V) (hL : ∀ k, k < V 20 2 → L k ≤ 240) {b : Nat} (hb : b ≤ V 20 2) : (-50000 < pE V K L b ∧ pE V K L b < 50000) ∧ (-50000 < pN V K L b ∧ pN V K L b < 50000) := by
  have g12 := g.1.2.2.1
  exact ⟨bnd_lt (pE_b g hL b hb) (by omega), bnd_lt (pN_b g hL b hb) (by omega)⟩
theorem sqS_lt (g : GV V) (gk : GK V K) {b s : Nat} (hb : b ≤ V 20 2) : -2147483648 ≤ sqS V K b s ∧ sqS V K b s < 2147483648 := by
  obtain ⟨h1, h2⟩ := sq_lt (K := K) g (lS_le g gk s) hb
  exact sqr_b h1 h2
/-- a table of one column that holds a list -/
def holdsL (c : Nat → Nat → Int32) (l : List Int) : Prop := c 72 3 = nI l.length ∧ ∀ i, i < l.length → c 73 i = iI (l.getD i 0)
theorem holdsL_mem {l : List Int} (hl : holdsL c l) (hn : l.length ≤ 16) (hb : ∀ x ∈ l, -2147483648 ≤ x ∧ x < 2147483648) {x : Int} (h1 : -2147483648 ≤ x) (h2 : x < 2147483648) : X8_holds 72 0 (iI x) (enc c j w m n) = some (if x ∈ l then 1 else 0, enc c j w m n) := by
  have := T_holds (c := c) (j := j) (w := w) (m := m) (n := n) sq_T (k := l.length) (q := 0) (v := iI x) hl.1 hn (by omega)
  rw [show nI 0 = 0 from rfl] at this
  rw [this]
  have hiff : (∃ i, i < l.length ∧ c 73 (i * 1 + 0) = iI x) ↔ x ∈ l := by
    constructor
    · rintro ⟨i, hi, e⟩
      rw [Nat.mul_one, show i + 0 = i from rfl, hl.2 i hi, List.getD_eq_getElem?_getD, List.getElem?_eq_getElem hi, Option.getD_some, Z_inj (hb _ (List.getElem_mem hi)).1 (hb _ (List.getElem_mem hi)).2 h1 h2] at e
      rw [← e]; exact List.getElem_mem hi
    · intro hx
      obtain ⟨i, hi, e⟩ := List.mem_iff_getElem.mp hx
      refine ⟨i, hi, ?_⟩
      rw [Nat.mul_one, show i + 0 = i from rfl, hl.2 i hi, List.getD_eq_getElem?_getD, List.getElem?_eq_getElem hi, Option.getD_some, e]
  by_cases e : x ∈ l
  · rw [if_pos (hiff.mpr e), if_pos e]
  · rw [if_neg (fun z => e (hiff.mp z)), if_neg e]
theorem holdsL_add {l : List Int} (hl : holdsL c l) (hn : l.length < 16) (x : Int) : ∃ c', X8_add 72 (iI x) 0 0 0 (enc c j w m n) = some (enc c' j w m n) ∧ (∀ y, y ≠ 72 → y ≠ 73 → c' y = c y) ∧ holdsL c' (l ++ [x]) := by
  obtain ⟨c1, e1, f1, g1, h1, h2, -⟩ := T_add (c := c) (j := j) (w := w) (m := m) (n := n) sq_T hl.1 hn (iI x) 0 0 0 (by omega)
  refine ⟨c1, e1, f1, ?_, fun i hi => ?_⟩
  · rw [g1, List.length_append]; rfl
  · rw [List.length_append, List.length_singleton] at hi
    rw [List.getD_eq_getElem?_getD, List.getElem?_append]
    by_cases e : i < l.length
    · rw [if_pos e, h1 i (by omega), hl.2 i e, List.getD_eq_getElem?_getD]
    · have : i = l.length := by omega
      subst this
      rw [if_neg e, Nat.mul_one] at *
      rw [h2]; simp
theorem dl_len {f : Nat → Int} : ∀ N, (dl f N).length ≤ N
  | 0 => Nat.le_refl _
  | N + 1 => by
    have := dl_len (f := f) N
    unfold dl
    split
    · omega
    · rw [List.length_append, List.length_singleton]; omega
theorem dl_mem {f : Nat → Int} {x : Int} : ∀ {N}, x ∈ dl f N → ∃ s, s < N ∧ x = f s
  | 0, h => by simp [dl] at h
  | N + 1, h => by
    unfold dl at h
    split at h
    · obtain ⟨s, hs, e⟩ := dl_mem h; exact ⟨s, by omega, e⟩
    · rw [List.mem_append] at h
      rcases h with h | h
      · obtain ⟨s, hs, e⟩ := dl_mem h; exact ⟨s, by omega, e⟩
      · simp at h; exact ⟨N, by omega, h⟩
theorem c_squaresAfter (h : CN c w v V K) {b : Nat} (hb : b ≤ V 20 2) : ∃ c', X3_squaresAfter 71 35 (nI b) (enc c j w m n) = some (nI (dl (sqS V K b) (2 ^ V 20 5)).length, enc c' j w m n) ∧ fr c c' := by
  obtain ⟨hv, hw, g, hV, gk, hK, h2⟩ := id h
  have hN := sets_lt g
  unfold X3_squaresAfter
  rw [F71_1, ob_some, T_put sq_T, ob_some]
  refine loop_up (z := fun _ _ _ _ _ => none) (s := X3_squaresAfter_L10_s) (2 ^ V 20 5) (fun i f => ∀ c1, fr c c1 → holdsL c1 (dl (sqS V K b) i) → ∃ c', f 71 35 (nI b) (nI i) (enc c1 j w m n) = some (nI (dl (sqS V K b) (2 ^ V 20 5)).length, enc c' j w m n) ∧ fr c c') ?_ ?_ 5000 0 (Nat.zero_le _) (by omega) _ (fun y hy => by simp only [va_up]; rw [if_neg (by omega)]) ⟨by simp [va_up, upd, dl]; rfl, fun i hi => by simp [dl] at hi⟩
  · intro i f hi ih c1 f1 l1
    have h1 := h.fr f1
    obtain ⟨-, -, -, hV1, -, -, -⟩ := h1
    obtain ⟨c2, e2, f2, k2, s2⟩ := c_supp (c := c1) (j := j) (w := w) (m := m) (n := n) (h.fr f1) (s := i) (by omega)
    obtain ⟨c3, e3, f3, s3, -⟩ := c_sailFor (c := c2) (j := j) (w := w) (m := m) (n := n) hv hw g gk (GES g i) (hV1.fr hv fun y _ _ => f2 y (by omega)) trial_K k2 s2 hb
    have f3' : ∀ y, (y < 60 ∨ 67 < y) → c3 y = c1 y := fun y hy => by rw [f3 y (by omega) (by omega), f2 y hy]
    have l3 : holdsL c3 (dl (sqS V K b) i) := ⟨by rw [f3' 72 (by omega)]; exact l1.1, fun q hq => by rw [f3' 73 (by omega)]; exact l1.2 q hq⟩
    obtain ⟨b1, b2⟩ := sq_lt (K := K) g (lS_le g gk i) hb
    have hlen := dl_len (f := sqS V K b) i
    have hx := sqS_lt (s := i) g gk hb
    unfold X3_squaresAfter_L10_s X3_squaresAfter_B62
    rw [cV_eq F71_is, c_sets hv hw g hV1, bd_eq, if_neg (by rw [N_le (by omega) (by omega)]; omega), F71_0, ob_some, cV_eq F71_is, e2, bd_eq, cV_eq F59_is, e3, bd_eq, cV_eq F60_is, c_inSquare s3 b1 b2, bd_eq, F71_1, ob_some, cV_eq (T_is sq_T)]
    have hm := holdsL_mem (c := c3) (j := j) (w := w) (m := m) (n := n) l3 (by omega) (fun x hx => by obtain ⟨s, hs, e⟩ := dl_mem hx; rw [e]; exact sqS_lt g gk hb) hx.1 hx.2
    rw [show iI (sqr (pE V K (stl V K (eS V i)) b) (pN V K (stl V K (eS V i)) b)) = iI (sqS V K b i) from rfl, hm, bd_eq]
    by_cases e : sqS V K b i ∈ dl (sqS V K b) i
    · rw [if_pos e, if_neg (by decide), show nI i + 1 = nI (i + 1) from N_add i 1]
      refine ih c3 (f1.tr (fun y hy => f3' y (by omega))) ?_
      rw [show dl (sqS V K b) (i + 1) = dl (sqS V K b) i by rw [dl, if_pos e]]
      exact l3
    · obtain ⟨c4, e4, f4, l4⟩ := holdsL_add (c := c3) (j := j) (w := w) (m := m) (n := n) l3 (by omega) (sqS V K b i)
      rw [if_neg e, if_pos rfl, F71_1, ob_some, cVv_eq (T_is sq_T), e4, ob_some, show nI i + 1 = nI (i + 1) from N_add i 1]
      refine ih c4 (f1.tr (fun y hy => by rw [f4 y (by omega) (by omega)]; exact f3' y (by omega))) ?_
      rw [show dl (sqS V K b) (i + 1) = dl (sqS V K b) i ++ [sqS V K b i] by rw [dl, if_neg e]]
      exact l4
  · intro f c1 f1 l1
    obtain ⟨-, -, -, hV1, -, -, -⟩ := h.fr f1
    refine ⟨c1, ?_, f1⟩
    unfold X3_squaresAfter_L10_s
    rw [cV_eq F71_is, c_sets hv hw g hV1, bd_eq, if_pos (by rw [N_le (by omega) (by omega)]; omega), F71_1, ob_some, T_count sq_T, ob_some, l1.1]
/-- reckon and strike with the trial -/
theorem c_recStrike (hv : isV v) (hw : w 3 = v) (g : GV V) (gk : GK V K) (ge : GE V E) (hV : RV c v V) {kp : Nat} (hk : isK kp) (hK : RK c kp V K E) (hS : RS c kp V S) (th : Bool) : ∃ c1 c', X6_reckon 59 kp (enc c j w m n) = some (enc c1 j w m n) ∧ X6_firstStrike 59 kp (if th then 1 else 0) (enc c1 j w m n) = some (iI (stk V K (stl V K E) S th), enc c' j w m n) ∧ (∀ y, y ≠ 60 → y ≠ 62 → c' y = c y) ∧ (∀ y, y ≠ 60 → y ≠ 62 → c1 y = c y) := by
  obtain ⟨c1, e1, f1, l1⟩ := c_reckon (c := c) (j := j) (w := w) (m := m) (n := n) hv hw hk g gk ge hV hK
  have hV1 : RV c1 v V := hV.fr hv fun y _ _ => f1 y (by omega)
  have hK1 : RK c1 kp V K E := hK.fr (f1 _ (by rcases hk with rfl | rfl | rfl | rfl | rfl <;> decide)) (f1 _ (by rcases hk with rfl | rfl | rfl | rfl | rfl <;> decide))
  have hS1 : RS c1 kp V S := fun i hi => by rw [f1 kp (by rcases hk with rfl | rfl | rfl | rfl | rfl <;> decide)]; exact hS i hi
  obtain ⟨c2, e2, f2⟩ := c_strike (c := c1) (j := j) (w := w) (m := m) (n := n) hv hw hk g gk hV1 hK1 hS1 l1 (fun k hk => Nat.le_trans (stl_le g gk ge hk) (by omega)) th
  exact ⟨c1, c2, e1, e2, fun y hy hy' => by rw [f2 y hy, f1 y hy'], fun y _ hy' => f1 y hy'⟩
theorem fiF_range {p : Nat → Bool} : ∀ N, fiF p N = -2 ∨ (0 ≤ fiF p N ∧ fiF p N < N)
  | 0 => Or.inl rfl
  | N + 1 => by
    unfold fiF
    rcases fiF_range (p := p) N with h | h
    · rw [if_pos h]
      split
      · right; omega
      · left; rfl
    · rw [if_neg (by omega)]; right; omega
theorem stk_range (g : GV V) {th : Bool} : -100 ≤ stk V K L S th ∧ stk V K L S th < 100 := by
  have g12 := g.1.2.2.1
  rcases fiF_range (p := fun i => isSh V (sqT V K L S th i)) (V 20 2 + 1) with h | h <;> unfold stk <;> omega
theorem stk_eq2 (g : GV V) {th : Bool} : (iI (stk V K L S th) = -2) ↔ stk V K L S th = -2 := by
  have := stk_range (K := K) (L := L) (S := S) (th := th) g
  have h := Z_inj (a := stk V K L S th) (b := -2) (by omega) (by omega) (by omega) (by omega)
  exact h
theorem c_strikingSets (h : CN c w v V K) : ∃ c', X3_strikingSets 71 35 (enc c j w m n) = some (nI (perS V K (2 ^ V 20 5)), enc c' j w m n) ∧ fr c c' := by
  obtain ⟨hv, hw, g, hV, gk, hK, h2⟩ := id h
  have hN := sets_lt g
  refine loop_up (z := fun _ _ _ _ _ => none) (s := X3_strikingSets_L4_s) (2 ^ V 20 5) (fun i f => ∀ c1, fr c c1 → ∃ c', f 71 35 (nI (perS V K i)) (nI i) (enc c1 j w m n) = some (nI (perS V K (2 ^ V 20 5)), enc c' j w m n) ∧ fr c c') ?_ ?_ 5000 0 (Nat.zero_le _) (by omega) c (fr.rf c)
  · intro i f hi ih c1 f1
    obtain ⟨-, -, -, hV1, -, -, -⟩ := h.fr f1
    obtain ⟨c2, e2, f2, k2, s2⟩ := c_supp (c := c1) (j := j) (w := w) (m := m) (n := n) (h.fr f1) (s := i) (by omega)
    obtain ⟨c3, c4, e3, e4, f4, f3⟩ := c_recStrike (c := c2) (j := j) (w := w) (m := m) (n := n) hv hw g gk (GES g i) (hV1.fr hv fun y _ _ => f2 y (by omega)) trial_K k2 s2 false
    have fr4 : fr c c4 := f1.tr fun y hy => by rw [f4 y (by omega) (by omega), f2 y (by omega)]
    unfold X3_strikingSets_L4_s X3_strikingSets_B47
    rw [cV_eq F71_is, c_sets hv hw g hV1, bd_eq, if_neg (by rw [N_le (by omega) (by omega)]; omega), cV_eq F71_is, e2, bd_eq, F71_0, ob_some, cVv_eq F59_is, e3, ob_some, F71_0, ob_some, cV_eq F59_is, show (0 : Int32) = (if false = true then 1 else 0) from rfl, e4, bd_eq, show nI i + 1 = nI (i + 1) from N_add i 1]
    by_cases e : stkS V K i = -2
    · rw [if_pos (show iI (stk V K (stl V K (eS V i)) allS false) = -2 from (stk_eq2 g).mpr e)]
      have := ih c4 fr4
      rw [show perS V K (i + 1) = perS V K i by unfold perS; rw [sumN, if_pos e, Nat.add_zero]] at this
      exact this
    · rw [if_neg (show ¬ iI (stk V K (stl V K (eS V i)) allS false) = -2 from fun z => e ((stk_eq2 g).mp z)), show nI (perS V K i) + 1 = nI (perS V K i + 1) from N_add _ 1]
      have := ih c4 fr4
      rw [show perS V K (i + 1) = perS V K i + 1 by unfold perS; rw [sumN, if_neg e]] at this
      exact this
  · intro f c1 f1
    obtain ⟨-, -, -, hV1, -, -, -⟩ := h.fr f1
    refine ⟨c1, ?_, f1⟩
    unfold X3_strikingSets_L4_s
    rw [cV_eq F71_is, c_sets hv hw g hV1, bd_eq, if_pos (by rw [N_le (by omega) (by omega)]; omega)]
theorem RK_put {c : Nat → Nat → Int32} (hK : RK c 63 V K E) {k q : Nat} : RK (va_up c 65 (upd (c 65) (k * 3 + 1) (nI q))) 63 V (KC K k q) E := by
  refine ⟨fun i hi => ?_, fun b hb => ?_⟩
  · have := hK.1 i hi
    simp only [va_up, if_true, upd]
    refine ⟨?_, ?_, ?_⟩
    · rw [if_neg (by omega), this.1]; unfold KC; rw [if_neg (by omega)]
    · unfold KC
      by_cases e : i = k
      · subst e; rw [if_pos rfl, if_pos ⟨rfl, rfl⟩]
      · rw [if_neg (by omega), this.2.1, if_neg (fun z => e z.2)]
    · rw [if_neg (by omega), this.2.2]; unfold KC; rw [if_neg (by omega)]
  · simp only [va_up]; rw [if_neg (by omega)]; exact hK.2 b hb
theorem perS_mono {V K : Nat → Nat → Nat} {i : Nat} : ∀ {N}, i < N → stkS V K i ≠ -2 → perS V K N ≠ 0
  | 0, h, _ => absurd h (Nat.not_lt_zero _)
  | N + 1, h, e => by
    unfold perS; rw [sumN]
    by_cases e2 : i = N
    · subst e2; rw [if_neg e]; omega
    · have := perS_mono (N := N) (by omega) e
      unfold perS at this; omega
theorem perS_zero {V K : Nat → Nat → Nat} : ∀ {N}, (∀ i, i < N → stkS V K i = -2) → perS V K N = 0
  | 0, _ => rfl
  | N + 1, h => by
    unfold perS; rw [sumN, if_pos (h N (by omega))]
    exact perS_zero (N := N) (fun i hi => h i (by omega))
theorem c_isSafeBy (h : CN c w v V K) {k q : Nat} (hk : k < V 20 2) (hq : q < 4) : ∃ c', X3_isSafeBy 71 35 (nI k) (nI q) (enc c j w m n) = some (if perS V (KC K k q) (2 ^ V 20 5) = 0 then 1 else 0, enc c' j w m n) ∧ fr c c' := by
  obtain ⟨hv, hw, g, hV, gk, hK, h2⟩ := id h
  have hN := sets_lt g
  have g12 := g.1.2.2.1
  refine loop_up (z := fun _ _ _ _ _ _ => none) (s := X3_isSafeBy_L3_s) (2 ^ V 20 5) (fun i f => ∀ c1, fr c c1 → (∀ i', i' < i → stkS V (KC K k q) i' = -2) → ∃ c', f 71 35 (nI k) (nI q) (nI i) (enc c1 j w m n) = some (if perS V (KC K k q) (2 ^ V 20 5) = 0 then 1 else 0, enc c' j w m n) ∧ fr c c') ?_ ?_ 5000 0 (Nat.zero_le _) (by omega) c (fr.rf c) (fun i h => absurd h (Nat.not_lt_zero _))
  · intro i f hi ih c1 f1 hn
    obtain ⟨-, -, -, hV1, -, -, -⟩ := h.fr f1
    obtain ⟨c2, e2, f2, k2, s2⟩ := c_supp (c := c1) (j := j) (w := w) (m := m) (n := n) (h.fr f1) (s := i) (by omega)
    have hV3 : RV (va_up c2 65 (upd (c2 65) (k * 3 + 1) (nI q))) v V := hV1.fr hv fun y _ _ => by simp only [va_up]; rw [if_neg (by omega)]; exact f2 y (by omega)
    have s3 : RS (va_up c2 65 (upd (c2 65) (k * 3 + 1) (nI q))) 63 V allS := fun i hi => by simp only [va_up]; rw [if_neg (by omega)]; exact s2 i hi
    obtain ⟨c3, c4, e3, e4, f4, f3⟩ := c_recStrike (c := va_up c2 65 (upd (c2 65) (k * 3 + 1) (nI q))) (j := j) (w := w) (m := m) (n := n) hv hw g (GKC gk hq) (GES g i) hV3 trial_K (RK_put k2) s3 false
    have fr4 : fr c c4 := f1.tr fun y hy => by rw [f4 y (by omega) (by omega)]; simp only [va_up]; rw [if_neg (by omega), f2 y (by omega)]
    unfold X3_isSafeBy_L3_s
    rw [cV_eq F71_is, c_sets hv hw g hV1, bd_eq, if_neg (by rw [N_le (by omega) (by omega)]; omega), cV_eq F71_is, e2, bd_eq, K_0 trial_K, ob_some, cVv_eq (T_is (K_wats trial_K)), T_put1 (K_wats trial_K) (by omega) (by omega), ob_some, F71_0, ob_some, cVv_eq F59_is, e3, ob_some, F71_0, ob_some, cV_eq F59_is, show X6_firstStrike 59 63 0 (enc c3 j w m n) = _ from e4, bd_eq, show nI i + 1 = nI (i + 1) from N_add i 1]
    by_cases e : stkS V (KC K k q) i = -2
    · rw [if_pos (show iI (stk V (KC K k q) (stl V (KC K k q) (eS V i)) allS false) = -2 from (stk_eq2 g).mpr e)]
      refine ih c4 fr4 fun i' hi' => ?_
      rcases Nat.lt_or_eq_of_le (Nat.le_of_lt_succ hi') with h1 | h1
      · exact hn i' h1
      · subst h1; exact e
    · rw [if_neg (show ¬ iI (stk V (KC K k q) (stl V (KC K k q) (eS V i)) allS false) = -2 from fun z => e ((stk_eq2 g).mp z)), rZ_0, if_neg (perS_mono hi e)]
      exact ⟨c4, rfl, fr4⟩
  · intro f c1 f1 hn
    obtain ⟨-, -, -, hV1, -, -, -⟩ := h.fr f1
    refine ⟨c1, ?_, f1⟩
    unfold X3_isSafeBy_L3_s
    rw [cV_eq F71_is, c_sets hv hw g hV1, bd_eq, if_pos (by rw [N_le (by omega) (by omega)]; omega), rZ_1, if_pos (perS_zero hn)]
end
