theorem prod9 {s : Nat} {x : Int} (hs : s ≤ 9) (h0 : 0 ≤ x) (h1 : x ≤ 240) : 0 ≤ x * (s : Int) ∧ x * (s : Int) ≤ 2160 := by
  have h2 : x * (s : Int) ≤ 240 * 9 := Int.mul_le_mul h1 (by omega) (by omega) (by omega)
  exact ⟨Int.mul_nonneg h0 (by omega), by omega⟩
def bnd (z : Int) (k : Nat) : Prop := -(20000 + 2160 * (k : Int)) ≤ z ∧ z ≤ 20000 + 2160 * (k : Int)
theorem bnd_dx {z t : Int} {k q : Nat} (h : bnd z k) (h0 : 0 ≤ t) (h1 : t ≤ 2160) : bnd (z + dx q * t) (k + 1) := by
  unfold bnd at *
  have : dx q = 1 ∨ dx q = -1 ∨ dx q = 0 := by
    unfold dx
    split
    · exact Or.inl rfl
    · split
      · exact Or.inr (Or.inl rfl)
      · exact Or.inr (Or.inr rfl)
  rcases this with e | e | e <;> rw [e] <;> omega
theorem bnd_dy {z t : Int} {k q : Nat} (h : bnd z k) (h0 : 0 ≤ t) (h1 : t ≤ 2160) : bnd (z + dy q * t) (k + 1) := by
  unfold bnd at *
  have : dy q = 1 ∨ dy q = -1 ∨ dy q = 0 := by
    unfold dy
    split
    · exact Or.inl rfl
    · split
      · exact Or.inr (Or.inl rfl)
      · exact Or.inr (Or.inr rfl)
  rcases this with e | e | e <;> rw [e] <;> omega
section
variable {c : Nat → Nat → Int32} {j : Nat → Nat → Int64} {w : Nat → Nat} {m : Nat → Nat → Int32} {n : Nat → Nat → Int64} {v kp : Nat} {V K : Nat → Nat → Nat} {E L : Nat → Nat} {S : Nat → Bool}
theorem pE_b (g : GV V) (hL : ∀ k, k < V 20 2 → L k ≤ 240) : ∀ k, k ≤ V 20 2 → bnd (pE V K L k) k
  | 0, _ => by have := g.2.1.1; unfold bnd pE; omega
  | k + 1, h => by
    have h1 := hL k (by omega)
    obtain ⟨p0, p1⟩ := prod9 (g.2.2.2.2.1 k (by omega)).2.2.2 (show (0 : Int) ≤ 240 - (L k : Int) by omega) (by omega)
    exact bnd_dx (pE_b g hL k (by omega)) p0 p1
theorem pN_b (g : GV V) (hL : ∀ k, k < V 20 2 → L k ≤ 240) : ∀ k, k ≤ V 20 2 → bnd (pN V K L k) k
  | 0, _ => by have := g.2.1.2.1; unfold bnd pN; omega
  | k + 1, h => by
    have h1 := hL k (by omega)
    obtain ⟨p0, p1⟩ := prod9 (g.2.2.2.2.1 k (by omega)).2.2.2 (show (0 : Int) ≤ 240 - (L k : Int) by omega) (by omega)
    exact bnd_dy (pN_b g hL k (by omega)) p0 p1
theorem pTE_b (g : GV V) : ∀ k, k ≤ V 20 2 → bnd (pTE V K k) k
  | 0, _ => by have := g.2.1.1; unfold bnd pTE; omega
  | k + 1, h => by
    obtain ⟨p0, p1⟩ := prod9 (g.2.2.2.2.1 k (by omega)).2.2.2 (show (0 : Int) ≤ 240 by omega) (by omega)
    exact bnd_dx (pTE_b g k (by omega)) p0 p1
theorem pTN_b (g : GV V) (hL : ∀ k, k < V 20 2 → L k ≤ 240) : ∀ k, k ≤ V 20 2 → bnd (pTN V K L S k) k
  | 0, _ => by have := g.2.1.2.1; unfold bnd pTN; omega
  | k + 1, h => by
    obtain ⟨p0, p1⟩ := prod9 (g.2.2.2.2.1 k (by omega)).2.2.2 (show (0 : Int) ≤ 240 by omega) (by omega)
    rw [pTN_succ]
    split
    · exact pN_b g hL (k + 1) h
    · exact bnd_dy (pTN_b g hL k (by omega)) p0 p1
theorem bnd_lt {z : Int} {k : Nat} (h : bnd z k) (hk : k ≤ 12) : -50000 < z ∧ z < 50000 := by unfold bnd at h; omega
theorem sqr_b {e n : Int} (h1 : -50000 < e ∧ e < 50000) (h2 : -50000 < n ∧ n < 50000) : -2147483648 ≤ sqr e n ∧ sqr e n < 2147483648 := by unfold sqr; omega
theorem c_inSquare {e n' te tn : Int} (hs : RSh c e n' te tn) (h1 : -50000 < e ∧ e < 50000) (h2 : -50000 < n' ∧ n' < 50000) : X7_inSquare 60 (enc c j w m n) = some (iI (sqr e n'), enc c j w m n) := by
  unfold X7_inSquare X7_squareNumber
  rw [F60_g (by omega), ob_some, hs.1, floorD (by omega) (by omega), bd_eq, F60_g (by omega), ob_some, hs.2.1, floorD (by omega) (by omega), bd_eq, bd_eq, show (300 : Int32) = iI 300 from rfl, show (1000 : Int32) = iI 1000 from rfl, Z_add, Z_mul, Z_add, Z_add]
  rfl
theorem c_thoughtSq {e n' te tn : Int} (hs : RSh c e n' te tn) (h1 : -50000 < te ∧ te < 50000) (h2 : -50000 < tn ∧ tn < 50000) : X7_thoughtInSquare 60 (enc c j w m n) = some (iI (sqr te tn), enc c j w m n) := by
  unfold X7_thoughtInSquare X7_squareNumber
  rw [F60_g (by omega), ob_some, hs.2.2.1, floorD (by omega) (by omega), bd_eq, F60_g (by omega), ob_some, hs.2.2.2, floorD (by omega) (by omega), bd_eq, bd_eq, show (300 : Int32) = iI 300 from rfl, show (1000 : Int32) = iI 1000 from rfl, Z_add, Z_mul, Z_add, Z_add]
  rfl
theorem c_apart {e n' te tn : Int} (hs : RSh c e n' te tn) (h1 : -50000 < e ∧ e < 50000) (h2 : -50000 < n' ∧ n' < 50000) (h3 : -50000 < te ∧ te < 50000) (h4 : -50000 < tn ∧ tn < 50000) : X7_apart 60 (enc c j w m n) = some (iI (apt e n' te tn), enc c j w m n) := by
  unfold X7_apart
  rw [F60_g (by omega), ob_some, F60_g (by omega), ob_some, hs.1, hs.2.2.1, Z_sub, absJ (by omega) (by omega), bd_eq, F60_g (by omega), ob_some, F60_g (by omega), ob_some, hs.2.1, hs.2.2.2, Z_sub, absJ (by omega) (by omega), bd_eq, Z_add]
  rfl
theorem c_isSh (hv : isV v) (g : GV V) (hV : RV c v V) {x : Int} (h1 : -2147483648 ≤ x) (h2 : x < 2147483648) : X8_holds (v + 9) 0 (iI x) (enc c j w m n) = some (if isSh V x then 1 else 0, enc c j w m n) := by
  have g6 := g.1.2.2.2.2.1
  have := T_holds (c := c) (j := j) (w := w) (m := m) (n := n) (V_shoals hv) (k := V 20 4) (q := 0) (v := iI x) (hV.1 4 (by omega)) g6 (by omega)
  rw [show nI 0 = 0 from rfl] at this
  rw [this]
  have hiff : (∃ i, i < V 20 4 ∧ c (v + 10) (i * 1 + 0) = iI x) ↔ isSh V x = true := by
    unfold isSh
    rw [List.any_eq_true]
    constructor
    · rintro ⟨i, hi, e⟩
      refine ⟨i, List.mem_range.mpr hi, ?_⟩
      have hb := g.2.2.2.2.2.2.2.1 i hi
      rw [show c (v + 10) (i * 1 + 0) = nI (V 6 i) from hV.2.2.2.2.2.2.1 i hi, nI_iI, Z_inj (by omega) (by omega) h1 h2] at e
      simp [e]
    · rintro ⟨i, hi, e⟩
      refine ⟨i, List.mem_range.mp hi, ?_⟩
      rw [show c (v + 10) (i * 1 + 0) = nI (V 6 i) from hV.2.2.2.2.2.2.1 i (List.mem_range.mp hi), nI_iI]
      simp only [beq_iff_eq] at e
      rw [e]
  by_cases e : isSh V x = true
  · rw [if_pos (hiff.mpr e), if_pos e]
  · rw [if_neg (fun z => e (hiff.mp z)), if_neg e]
def sqT (V K : Nat → Nat → Nat) (L : Nat → Nat) (S : Nat → Bool) (th : Bool) (i : Nat) : Int := if th then sqr (pTE V K i) (pTN V K L S i) else sqr (pE V K L i) (pN V K L i)
/-- the first strike -/
def stk (V K : Nat → Nat → Nat) (L : Nat → Nat) (S : Nat → Bool) (th : Bool) : Int := fiF (fun i => isSh V (sqT V K L S th i)) (V 20 2 + 1)
theorem max1 (i : Nat) (hi : i < 100) (h : Hp) : J9_max_7cf53 (nI i - 1) 0 h = some (nI (i - 1), h) := by
  unfold J9_max_7cf53
  rw [nI_iI, show (1 : Int32) = iI 1 from rfl, Z_sub]
  have hz : iI ((i : Int) - 1) < 0 ↔ (i : Int) - 1 < 0 := Z_lt (b := 0) (by omega) (by omega) (by omega) (by omega)
  by_cases e : i = 0
  · subst e; rw [if_pos (hz.mpr (by omega))]; rfl
  · rw [if_neg (fun z => by have := hz.mp z; omega), nI_iI]; congr 3; omega
theorem c_strike (hv : isV v) (hw : w 3 = v) (hk : isK kp) (g : GV V) (gk : GK V K) (hV : RV c v V) (hK : RK c kp V K E) (hS : RS c kp V S) (hL : ∀ k, k < V 20 2 → c 62 k = nI (L k)) (hL' : ∀ k, k < V 20 2 → L k ≤ 240) (th : Bool) : ∃ c', X6_firstStrike 59 kp (if th then 1 else 0) (enc c j w m n) = some (iI (stk V K L S th), enc c' j w m n) ∧ (∀ y, y ≠ 60 → c' y = c y) := by
  have g12 := g.1.2.2.1
  refine loop_up (z := fun _ _ _ _ _ => none) (s := X6_firstStrike_L2_s) (V 20 2 + 1) (fun i f => ∀ c0 : Nat → Nat → Int32, (∀ y, y ≠ 60 → c0 y = c y) → (i - 1 = 0 ∨ RSh c0 (pE V K L (i - 1)) (pN V K L (i - 1)) (pTE V K (i - 1)) (pTN V K L S (i - 1))) → (∀ i', i' < i → isSh V (sqT V K L S th i') = false) → ∃ c', f 59 kp (if th then 1 else 0) (nI i) (enc c0 j w m n) = some (iI (stk V K L S th), enc c' j w m n) ∧ (∀ y, y ≠ 60 → c' y = c y)) ?_ ?_ 5000 0 (Nat.zero_le _) (by omega) c (fun _ _ => rfl) (Or.inl rfl) (fun i h => absurd h (Nat.not_lt_zero _))
  · intro i f hi ih c0 f0 hs hn
    have fk : ∀ c1 : Nat → Nat → Int32, (∀ y, y ≠ 60 → c1 y = c y) → RV c1 v V ∧ RK c1 kp V K E ∧ RS c1 kp V S ∧ ∀ k, k < V 20 2 → c1 62 k = nI (L k) := fun c1 f1 => ⟨hV.fr hv fun y _ _ => f1 y (by omega), hK.fr (f1 _ (by rcases hk with rfl | rfl | rfl | rfl | rfl <;> decide)) (f1 _ (by rcases hk with rfl | rfl | rfl | rfl | rfl <;> decide)), fun i hi => by rw [f1 kp (by rcases hk with rfl | rfl | rfl | rfl | rfl <;> decide)]; exact hS i hi, fun k hk => by rw [f1 62 (by omega)]; exact hL k hk⟩
    obtain ⟨hV0, hK0, hS0, hL0⟩ := fk c0 f0
    obtain ⟨c1, e1, f1, s1⟩ := c_sail (c := c0) (j := j) (w := w) (m := m) (n := n) hv hw hk g gk hV0 hK0 hS0 hL0 (a := i - 1) (b := i) (by omega) (by omega) hs
    have f1' : ∀ y, y ≠ 60 → c1 y = c y := fun y hy => by rw [f1 y hy]; exact f0 y hy
    obtain ⟨hV1, hK1, hS1, hL1⟩ := fk c1 f1'
    have b1 := bnd_lt (pE_b (K := K) g hL' i (by omega)) (by omega)
    have b2 := bnd_lt (pN_b (K := K) g hL' i (by omega)) (by omega)
    have b3 := bnd_lt (pTE_b (K := K) g i (by omega)) (by omega)
    have b4 := bnd_lt (pTN_b (K := K) (S := S) g hL' i (by omega)) (by omega)
    have hsq : -2147483648 ≤ sqT V K L S th i ∧ sqT V K L S th i < 2147483648 := by
      unfold sqT; cases th
      · exact sqr_b b1 b2
      · exact sqr_b b3 b4
    have B : ∃ c', X6_firstStrike_B50 f 59 kp (if th then 1 else 0) (nI i) (iI (sqT V K L S th i)) (enc c1 j w m n) = some (iI (stk V K L S th), enc c' j w m n) ∧ (∀ y, y ≠ 60 → c' y = c y) := by
      unfold X6_firstStrike_B50
      rw [F59_3, hw, ob_some, V_4 hv, ob_some, cV_eq (T_is (V_shoals hv)), c_isSh hv g hV1 hsq.1 hsq.2, bd_eq]
      cases e : isSh V (sqT V K L S th i) with
      | false =>
        rw [if_pos (show (if false = true then (1 : Int32) else 0) = 0 by decide), show (1 : Int32) = nI 1 from rfl, N_add]
        refine ih c1 f1' (Or.inr s1) fun i' hi' => ?_
        rcases Nat.lt_or_eq_of_le (Nat.le_of_lt_succ hi') with h1 | h1
        · exact hn i' h1
        · subst h1; exact e
      | true =>
        rw [if_neg (show ¬ (if true = true then (1 : Int32) else 0) = 0 by decide)]
        refine ⟨c1, ?_, f1'⟩
        rw [nI_iI, show stk V K L S th = (i : Int) from fiF_at (p := fun i => isSh V (sqT V K L S th i)) e hn hi]
    unfold X6_firstStrike_L2_s
    rw [F59_3, hw, ob_some, V_2 hv, ob_some, T_count (V_wats hv), ob_some, show c0 (v + 5) 3 = nI (V 20 2) from hV0.1 2 (by omega), if_neg (by rw [N_lt (by omega) (by omega)]; omega), max1 i (by omega), bd_eq, cVv_eq F59_is, e1, ob_some]
    cases th with
    | false =>
      rw [if_pos (show (if false = true then (1 : Int32) else 0) = 0 by decide), F59_0, ob_some, cV_eq F60_is, c_inSquare s1 b1 b2, bd_eq]
      exact B
    | true =>
      rw [if_neg (show ¬ (if true = true then (1 : Int32) else 0) = 0 by decide), F59_0, ob_some, cV_eq F60_is, c_thoughtSq s1 b3 b4, bd_eq]
      exact B
  · intro f c0 f0 _ hn
    have hV0 : RV c0 v V := hV.fr hv fun y _ _ => f0 y (by omega)
    refine ⟨c0, ?_, f0⟩
    unfold X6_firstStrike_L2_s
    rw [F59_3, hw, ob_some, V_2 hv, ob_some, T_count (V_wats hv), ob_some, show c0 (v + 5) 3 = nI (V 20 2) from hV0.1 2 (by omega), if_pos (by rw [N_lt (by omega) (by omega)]; omega), show stk V K L S th = -2 from fiF_none hn]
    rfl
/-- a trial is a copy -/
theorem c_copyK (hk : isK kp) {kq : Nat} (hq : isK kq) (hd : kp ≠ kq) : ∃ c', X4_copyFrom kp kq (enc c j w m n) = some (enc c' j w m n) ∧ (∀ y, (y < kp ∨ kp + 4 < y) → c' y = c y) ∧ (∀ i, i < 36 → c' (kp + 2) i = c (kq + 2) i) ∧ (∀ i, i < 5 → c' (kp + 4) i = c (kq + 4) i) ∧ c' kp 2 = c kq 2 := by
  have hd' : kp + 4 < kq ∨ kq + 4 < kp := by
    rcases hk with rfl | rfl | rfl | rfl | rfl <;> rcases hq with rfl | rfl | rfl | rfl | rfl <;> first | omega | exact absurd rfl hd
  obtain ⟨c1, e1, f1, g1, h1⟩ := T_copy (c := c) (j := j) (w := w) (m := m) (n := n) (K_wats hk) (K_wats hq) (by omega) (by omega) (by omega)
  obtain ⟨c2, e2, f2, g2, h2⟩ := T_copy (c := c1) (j := j) (w := w) (m := m) (n := n) (K_early hk) (K_early hq) (by omega) (by omega) (by omega)
  refine ⟨va_up c2 kp (upd (c2 kp) 2 (c2 kq 2)), ?_, fun y hy => ?_, fun i hi => ?_, fun i hi => ?_, ?_⟩
  · unfold X4_copyFrom
    rw [K_0 hk, ob_some, K_0 hq, ob_some, cVv_eq (T_is (K_wats hk)), e1, ob_some, K_1 hk, ob_some, K_1 hq, ob_some, cVv_eq (T_is (K_early hk)), e2, ob_some, K_2 hq, ob_some, K_p2 hk, ob_some]
  · simp only [va_up, if_neg (show ¬ y = kp by omega)]; rw [f2 y (by omega) (by omega), f1 y (by omega) (by omega)]
  · simp only [va_up, if_neg (show ¬ kp + 2 = kp by omega)]; rw [f2 _ (by omega) (by omega), h1 i hi]
  · simp only [va_up, if_neg (show ¬ kp + 4 = kp by omega)]; rw [h2 i hi, f1 _ (by omega) (by omega)]
  · simp only [va_up, if_true, upd]; rw [f2 _ (by omega) (by omega), f1 _ (by omega) (by omega)]
theorem c_trialOf (hk : isK kp) (hd : kp ≠ 63) (g : GV V) (hK : RK c kp V K E) (hS : RS c kp V S) : ∃ c', X6_trialOf 59 kp (enc c j w m n) = some (63, enc c' j w m n) ∧ (∀ y, (y < 63 ∨ 67 < y) → c' y = c y) ∧ RK c' 63 V K E ∧ RS c' 63 V S := by
  obtain ⟨c1, e1, f1, h1, h2, h3⟩ := c_copyK (c := c) (j := j) (w := w) (m := m) (n := n) trial_K hk (Ne.symm hd)
  have g12 := g.1.2.2.1
  have g5 := g.1.1
  refine ⟨c1, ?_, f1, ⟨fun k hk' => ?_, fun b hb => ?_⟩, fun i hi => ?_⟩
  · unfold X6_trialOf
    rw [F59_2, ob_some, cVv_eq (K_is trial_K), e1, ob_some, F59_2, ob_some]
  · rw [h1 _ (by omega), h1 _ (by omega), h1 _ (by omega)]; exact hK.1 k hk'
  · rw [h2 _ (by omega)]; exact hK.2 b hb
  · rw [h3]; exact hS i hi
def KT (V : Nat → Nat → Nat) (r k : Nat) : Nat := if r = 0 then V 11 k else if r = 1 then V 12 k else 0
theorem RS_all {kp : Nat} (g : GV V) (h : c kp 2 = -1) : RS c kp V (fun _ => true) := by
  intro i hi
  rw [h]
  have g4 := g.1.2.2.2.1
  exact (by decide : ∀ i, i < 4 → (((-1 : Int32)) >>> (nI i &&& 31)) &&& 1 = (if true = true then 1 else 0)) i (by omega)
theorem c_setAsTold (hv : isV v) (hk : isK kp) (g : GV V) (hV : RV c v V) : ∃ c', X4_setAsTold kp v (enc c j w m n) = some (enc c' j w m n) ∧ (∀ y, (y < kp ∨ kp + 4 < y) → c' y = c y) ∧ RK c' kp V (KT V) (V 1) ∧ c' kp 2 = -1 := by
  have g12 := g.1.2.2.1
  have g5 := g.1.1
  have far : v + 14 < kp := by rcases hv with rfl | rfl <;> rcases hk with rfl | rfl | rfl | rfl | rfl <;> decide
  have L2 : ∀ c0 : Nat → Nat → Int32, (∀ y, (y < kp ∨ kp + 4 < y) → c0 y = c y) → (∀ k, k < V 20 2 → c0 (kp + 2) (k * 3) = nI (KT V 0 k) ∧ c0 (kp + 2) (k * 3 + 1) = nI (KT V 1 k) ∧ c0 (kp + 2) (k * 3 + 2) = nI (KT V 2 k)) → ∃ c', X4_setAsTold_L67 5000 kp v 0 (enc c0 j w m n) = some (enc c' j w m n) ∧ (∀ y, (y < kp ∨ kp + 4 < y) → c' y = c y) ∧ RK c' kp V (KT V) (V 1) ∧ c' kp 2 = -1 := by
    intro c0 f0 h0
    refine loop_up (z := fun _ _ _ _ => none) (s := X4_setAsTold_L67_s) (V 20 0) (fun i f => ∀ c1 : Nat → Nat → Int32, (∀ y, (y < kp ∨ kp + 4 < y) → c1 y = c y) → (∀ k, k < V 20 2 → c1 (kp + 2) (k * 3) = nI (KT V 0 k) ∧ c1 (kp + 2) (k * 3 + 1) = nI (KT V 1 k) ∧ c1 (kp + 2) (k * 3 + 2) = nI (KT V 2 k)) → (∀ b, b < i → c1 (kp + 4) (b * 1) = nI (V 1 b)) → ∃ c', f kp v (nI i) (enc c1 j w m n) = some (enc c' j w m n) ∧ (∀ y, (y < kp ∨ kp + 4 < y) → c' y = c y) ∧ RK c' kp V (KT V) (V 1) ∧ c' kp 2 = -1) ?_ ?_ 5000 0 (Nat.zero_le _) (by omega) c0 f0 h0 (fun b h => absurd h (Nat.not_lt_zero _))
    · intro i f hi ih c1 f1 h1 b1
      have hV1 : RV c1 v V := hV.fr hv fun y _ _ => f1 y (by rcases hk with rfl | rfl | rfl | rfl | rfl <;> omega)
      unfold X4_setAsTold_L67_s
      rw [V_0 hv, ob_some, T_count (V_boys hv), ob_some, show c1 (v + 1) 3 = nI (V 20 0) from hV1.1 0 (by omega), if_neg (by rw [N_le (by omega) (by omega)]; omega), K_1 hk, ob_some, ob_some, cV_eq (T_is (V_boys hv)), T_cell1 (V_boys hv) (by omega) (by omega), bd_eq, (hV1.2.2.1 i hi).2, cVv_eq (T_is (K_early hk)), T_put0 (K_early hk) (by omega) (by omega), ob_some, show (1 : Int32) = nI 1 from rfl, N_add]
      refine ih _ (fun y hy => ?_) (fun k hk' => ?_) fun b hb => ?_
      · simp only [va_up, if_neg (show ¬ y = kp + 4 by omega)]; exact f1 y hy
      · simp only [va_up, if_neg (show ¬ kp + 2 = kp + 4 by omega)]; exact h1 k hk'
      · simp only [va_up, if_true, upd]
        by_cases e : b = i
        · subst e; rw [if_pos rfl]
        · rw [if_neg (by omega)]; exact b1 b (by omega)
    · intro f c1 f1 h1 b1
      have hV1 : RV c1 v V := hV.fr hv fun y _ _ => f1 y (by rcases hk with rfl | rfl | rfl | rfl | rfl <;> omega)
      unfold X4_setAsTold_L67_s
      rw [V_0 hv, ob_some, T_count (V_boys hv), ob_some, show c1 (v + 1) 3 = nI (V 20 0) from hV1.1 0 (by omega), if_pos (by rw [N_le (by omega) (by omega)]; omega), K_p2 hk, ob_some]
      refine ⟨_, rfl, fun y hy => ?_, ⟨fun k hk' => ?_, fun b hb => ?_⟩, ?_⟩
      · simp only [va_up, if_neg (show ¬ y = kp by omega)]; exact f1 y hy
      · simp only [va_up, if_neg (show ¬ kp + 2 = kp by omega)]; exact h1 k hk'
      · simp only [va_up, if_neg (show ¬ kp + 4 = kp by omega)]; exact b1 b hb
      · simp [va_up, upd]
  refine loop_up (z := fun _ _ _ _ => none) (s := X4_setAsTold_L2_s) (V 20 2) (fun i f => ∀ c1 : Nat → Nat → Int32, (∀ y, (y < kp ∨ kp + 4 < y) → c1 y = c y) → (∀ k, k < i → c1 (kp + 2) (k * 3) = nI (KT V 0 k) ∧ c1 (kp + 2) (k * 3 + 1) = nI (KT V 1 k) ∧ c1 (kp + 2) (k * 3 + 2) = nI (KT V 2 k)) → ∃ c', f kp v (nI i) (enc c1 j w m n) = some (enc c' j w m n) ∧ (∀ y, (y < kp ∨ kp + 4 < y) → c' y = c y) ∧ RK c' kp V (KT V) (V 1) ∧ c' kp 2 = -1) ?_ ?_ 5000 0 (Nat.zero_le _) (by omega) c (fun _ _ => rfl) (fun b h => absurd h (Nat.not_lt_zero _))
  · intro i f hi ih c1 f1 h1
    have far' : ∀ y, y < 32 → y < kp := by intro y hy; rcases hk with rfl | rfl | rfl | rfl | rfl <;> omega
    have hV1 : RV c1 v V := hV.fr hv fun y _ hy => f1 y (Or.inl (far' y hy))
    have hVx : ∀ g' : Nat → Int32, RV (va_up c1 (kp + 2) g') v V := fun g' => hV1.fr hv fun y _ hy => by simp only [va_up]; rw [if_neg (by have := far' y hy; omega)]
    unfold X4_setAsTold_L2_s
    rw [V_2 hv, ob_some, T_count (V_wats hv), ob_some, show c1 (v + 5) 3 = nI (V 20 2) from hV1.1 2 (by omega), if_neg (by rw [N_le (by omega) (by omega)]; omega), K_0 hk, ob_some, ob_some, cV_eq (T_is (V_wats hv)), T_cell0 (V_wats hv) (by omega) (by omega), bd_eq, (hV1.2.2.2.2.1 i hi).1, cVv_eq (T_is (K_wats hk)), T_put0 (K_wats hk) (by omega) (by omega), ob_some, K_0 hk, ob_some, V_2 hv, ob_some, cV_eq (T_is (V_wats hv)), T_cell2 (V_wats hv) (by omega) (by omega), bd_eq, ((hVx _).2.2.2.2.1 i hi).2.2.1, cVv_eq (T_is (K_wats hk)), T_put1 (K_wats hk) (by omega) (by omega), ob_some, K_0 hk, ob_some, cVv_eq (T_is (K_wats hk)), T_put2 (K_wats hk) (by omega) (by omega), ob_some, show (1 : Int32) = nI 1 from rfl, N_add]
    refine ih _ (fun y hy => ?_) fun k hk' => ?_
    · simp only [va_up, if_neg (show ¬ y = kp + 2 by omega)]; exact f1 y hy
    · simp only [va_up, if_true, upd]
      by_cases e : k = i
      · subst e
        refine ⟨?_, ?_, ?_⟩
        · rw [if_neg (by omega), if_neg (by omega), if_pos rfl]; rfl
        · rw [if_neg (by omega), if_pos rfl]; rfl
        · rw [if_pos rfl]; rfl
      · have := h1 k (by omega)
        rw [if_neg (by omega), if_neg (by omega), if_neg (by omega), if_neg (by omega), if_neg (by omega), if_neg (by omega), if_neg (by omega), if_neg (by omega), if_neg (by omega)]
        exact this
  · intro f c1 f1 h1
    have hV1 : RV c1 v V := hV.fr hv fun y _ _ => f1 y (by rcases hk with rfl | rfl | rfl | rfl | rfl <;> omega)
    unfold X4_setAsTold_L2_s
    rw [V_2 hv, ob_some, T_count (V_wats hv), ob_some, show c1 (v + 5) 3 = nI (V 20 2) from hV1.1 2 (by omega), if_pos (by rw [N_le (by omega) (by omega)]; omega)]
    exact L2 c1 f1 h1
/-- attended besides -/
def KA (K : Nat → Nat → Nat) (B : Nat → Bool) (r k : Nat) : Nat := if r = 2 ∧ B k then 1 else K r k
theorem c_attendAll (hk : isK kp) (g : GV V) (hK : RK c kp V K E) {bits : Int32} {B : Nat → Bool} (hB : ∀ k, k < 12 → ((bits >>> (nI k &&& 31)) &&& 1) = (if B k then 1 else 0)) : ∃ c', X4_attendAll kp bits (enc c j w m n) = some (enc c' j w m n) ∧ (∀ y, y ≠ kp + 2 → c' y = c y) ∧ RK c' kp V (KA K B) E := by
  have g12 := g.1.2.2.1
  refine loop_up (z := fun _ _ _ _ => none) (s := X4_attendAll_L2_s) 12 (fun i f => ∀ c1 : Nat → Nat → Int32, (∀ y, y ≠ kp + 2 → c1 y = c y) → (∀ k, k < V 20 2 → c1 (kp + 2) (k * 3) = nI (K 0 k) ∧ c1 (kp + 2) (k * 3 + 1) = nI (K 1 k) ∧ c1 (kp + 2) (k * 3 + 2) = nI (if k < i then KA K B 2 k else K 2 k)) → ∃ c', f kp bits (nI i) (enc c1 j w m n) = some (enc c' j w m n) ∧ (∀ y, y ≠ kp + 2 → c' y = c y) ∧ RK c' kp V (KA K B) E) ?_ ?_ 5000 0 (Nat.zero_le _) (by omega) c (fun _ _ => rfl) (fun k h => hK.1 k h)
  · intro i f hi ih c1 f1 h1
    unfold X4_attendAll_L2_s X4_attendAll_B26
    rw [show (12 : Int32) = nI 12 from rfl, if_neg (by rw [N_le (by omega) (by omega)]; omega), hB i hi]
    cases e : B i with
    | false =>
      rw [if_pos (show (if false = true then (1 : Int32) else 0) = 0 by decide), show (1 : Int32) = nI 1 from rfl, N_add]
      refine ih c1 f1 fun k hk' => ?_
      refine ⟨(h1 k hk').1, (h1 k hk').2.1, ?_⟩
      rw [(h1 k hk').2.2]
      by_cases e2 : k = i
      · subst e2; rw [if_neg (by omega), if_pos (by omega)]; unfold KA; rw [e, if_neg (by simp)]
      · by_cases e3 : k < i
        · rw [if_pos e3, if_pos (by omega)]
        · rw [if_neg e3, if_neg (by omega)]
    | true =>
      rw [if_neg (show ¬ (if true = true then (1 : Int32) else 0) = 0 by decide), K_0 hk, ob_some, cVv_eq (T_is (K_wats hk)), T_put2 (K_wats hk) (by omega) (by omega), ob_some, show nI i + 1 = nI (i + 1) from N_add i 1]
      refine ih _ (fun y hy => by simp only [va_up, if_neg hy]; exact f1 y hy) fun k hk' => ?_
      simp only [va_up, if_true, upd]
      rw [if_neg (by omega), if_neg (by omega)]
      refine ⟨(h1 k hk').1, (h1 k hk').2.1, ?_⟩
      by_cases e2 : k = i
      · subst e2; rw [if_pos rfl, if_pos (by omega)]; unfold KA; rw [e, if_pos (by simp)]; rfl
      · rw [if_neg (by omega), (h1 k hk').2.2]
        by_cases e3 : k < i
        · rw [if_pos e3, if_pos (by omega)]
        · rw [if_neg e3, if_neg (by omega)]
  · intro f c1 f1 h1
    refine ⟨c1, ?_, f1, fun k hk' => ?_, ?_⟩
    · unfold X4_attendAll_L2_s
      rw [if_pos (by decide)]
    · have := h1 k hk'
      rw [if_pos (by omega)] at this
      refine ⟨this.1, this.2.1, this.2.2⟩
    · rw [f1 _ (by omega)]; exact hK.2
/-- some unsure boys as early as is told of them -/
def wE (V : Nat → Nat → Nat) (E : Nat → Nat) (B : Nat → Bool) : Nat → Nat → Nat
  | 0 => E
  | i + 1 => if B i then (fun b => if b = V 7 i then V 8 i else wE V E B i b) else wE V E B i
theorem wE_le (g : GV V) (ge : GE V E) {B : Nat → Bool} : ∀ i, i ≤ V 20 5 → GE V (wE V E B i)
  | 0, _ => ge
  | i + 1, h => by
    intro b hb
    have := wE_le g ge (B := B) i (by omega) b hb
    unfold wE
    split
    · by_cases e : b = V 7 i
      · simp only [e, if_true]; exact (g.2.2.2.2.2.2.2.2.1 i (by omega)).2
      · simp only [e, if_false]; exact this
    · exact this
theorem F71_0 : gR (enc c j w m n) 71 3 0 = some 59 := gR_k rfl rfl
theorem F71_1 : gR (enc c j w m n) 71 3 1 = some 72 := gR_k rfl rfl
theorem F71_is : isC (enc c j w m n) 71 3 = true := isC_enc rfl
theorem sq_T : isT 72 16 1 73 := ⟨rfl, rfl, by decide, by decide, by decide, by decide, by decide, by decide⟩
theorem c_with (hv : isV v) (hw : w 3 = v) (hk : isK kp) (g : GV V) (hV : RV c v V) (hK : RK c kp V K E) {bits : Int32} {B : Nat → Bool} (hB : ∀ k, k < 4 → ((bits >>> (nI k &&& 31)) &&& 1) = (if B k then 1 else 0)) : ∃ c', X3_with 71 kp bits (enc c j w m n) = some (kp, enc c' j w m n) ∧ (∀ y, y ≠ kp + 4 → c' y = c y) ∧ RK c' kp V K (wE V E B (V 20 5)) := by
  have g4 := g.1.2.2.2.2.2.1
  have g5 := g.1.1
  have g12 := g.1.2.2.1
  have far' : ∀ y, y < 32 → y < kp := by intro y hy; rcases hk with rfl | rfl | rfl | rfl | rfl <;> omega
  unfold X3_with
  rw [F71_0, ob_some, F59_3, hw, ob_some, V_5 hv, ob_some]
  refine loop_up (z := fun _ _ _ _ _ => none) (s := X3_with_L14_s) (V 20 5) (fun i f => ∀ c1 : Nat → Nat → Int32, (∀ y, y ≠ kp + 4 → c1 y = c y) → RK c1 kp V K (wE V E B i) → ∃ c', f kp bits (v + 11) (nI i) (enc c1 j w m n) = some (kp, enc c' j w m n) ∧ (∀ y, y ≠ kp + 4 → c' y = c y) ∧ RK c' kp V K (wE V E B (V 20 5))) ?_ ?_ 5000 0 (Nat.zero_le _) (by omega) c (fun _ _ => rfl) hK
  · intro i f hi ih c1 f1 h1
    have hV1 : RV c1 v V := hV.fr hv fun y _ hy => f1 y (by have := far' y hy; omega)
    unfold X3_with_L14_s X3_with_B54
    rw [T_count (V_unsure hv), ob_some, show c1 (v + 11) 3 = nI (V 20 5) from hV1.1 5 (by omega), if_neg (by rw [N_le (by omega) (by omega)]; omega), hB i (by omega)]
    cases e : B i with
    | false =>
      rw [if_pos (show (if false = true then (1 : Int32) else 0) = 0 by decide), show nI i + 1 = nI (i + 1) from N_add i 1]
      refine ih c1 f1 ?_
      unfold wE; rw [e]; exact h1
    | true =>
      have hb := (g.2.2.2.2.2.2.2.2.1 i hi).1
      have q := hV1.2.2.2.2.2.2.2.1 i hi
      rw [if_neg (show ¬ (if true = true then (1 : Int32) else 0) = 0 by decide), K_1 hk, ob_some, cV_eq (T_is (V_unsure hv)), T_cell0 (V_unsure hv) (by omega) (by omega), bd_eq, cV_eq (T_is (V_unsure hv)), T_cell1 (V_unsure hv) (by omega) (by omega), bd_eq, q.1, q.2, cVv_eq (T_is (K_early hk)), T_put0 (K_early hk) (by omega) (by omega), ob_some, show nI i + 1 = nI (i + 1) from N_add i 1]
      refine ih _ (fun y hy => by simp only [va_up, if_neg hy]; exact f1 y hy) ⟨fun k hk' => ?_, fun b hb' => ?_⟩
      · simp only [va_up, if_neg (show ¬ kp + 2 = kp + 4 by omega)]; exact h1.1 k hk'
      · simp only [va_up, if_true, upd]
        unfold wE; rw [e, if_pos rfl]
        by_cases e2 : b = V 7 i
        · subst e2; rw [if_pos rfl, if_pos rfl]
        · rw [if_neg (by omega), if_neg e2]; exact h1.2 b hb'
  · intro f c1 f1 h1
    have hV1 : RV c1 v V := hV.fr hv fun y _ hy => f1 y (by have := far' y hy; omega)
    refine ⟨c1, ?_, f1, h1⟩
    unfold X3_with_L14_s
    rw [T_count (V_unsure hv), ob_some, show c1 (v + 11) 3 = nI (V 20 5) from hV1.1 5 (by omega), if_pos (by rw [N_le (by omega) (by omega)]; omega)]
end
