/-! where the ship comes to -/
def dx (q : Nat) : Int := if q = 1 then 1 else if q = 3 then -1 else 0
def dy (q : Nat) : Int := if q = 0 then 1 else if q = 2 then -1 else 0
def pE (V K : Nat → Nat → Nat) (L : Nat → Nat) : Nat → Int
  | 0 => 100 * (V 20 7 : Int) + 50
  | k + 1 => pE V K L k + dx (K 1 k) * ((240 - (L k : Int)) * (V 4 k : Int))
def pN (V K : Nat → Nat → Nat) (L : Nat → Nat) : Nat → Int
  | 0 => 100 * (V 20 8 : Int) + 50
  | k + 1 => pN V K L k + dy (K 1 k) * ((240 - (L k : Int)) * (V 4 k : Int))
def pTE (V K : Nat → Nat → Nat) : Nat → Int
  | 0 => 100 * (V 20 7 : Int) + 50
  | k + 1 => pTE V K k + dx (K 1 k) * (240 * (V 4 k : Int))
def nSeen (V : Nat → Nat → Nat) (S : Nat → Bool) (n : Nat) : Bool := (List.range (V 20 3)).any (fun i => V 5 i == n && S i)
def pTN (V K : Nat → Nat → Nat) (L : Nat → Nat) (S : Nat → Bool) : Nat → Int
  | 0 => 100 * (V 20 8 : Int) + 50
  | k + 1 => if nSeen V S (k + 1) then pN V K L (k + 1) else pTN V K L S k + dy (K 1 k) * (240 * (V 4 k : Int))
theorem pTN_succ {V K : Nat → Nat → Nat} {L : Nat → Nat} {S : Nat → Bool} {k : Nat} : pTN V K L S (k + 1) = if nSeen V S (k + 1) then pN V K L (k + 1) else pTN V K L S k + dy (K 1 k) * (240 * (V 4 k : Int)) := rfl
def sqr (e n : Int) : Int := 1000 * (e / 100 + 300) + n / 100 + 300
def absI (z : Int) : Int := if 0 ≤ z then z else -z
def apt (e n te tn : Int) : Int := absI (e - te) + absI (n - tn)
def isSh (V : Nat → Nat → Nat) (x : Int) : Bool := (List.range (V 20 4)).any (fun i => ((V 6 i : Nat) : Int) == x)
def fiF (p : Nat → Bool) : Nat → Int
  | 0 => -2
  | n + 1 => if fiF p n = -2 then (if p n then (n : Int) else -2) else fiF p n
theorem fiF_none {p : Nat → Bool} : ∀ {n : Nat}, (∀ i, i < n → p i = false) → fiF p n = -2
  | 0, _ => rfl
  | n + 1, h => by
    unfold fiF
    rw [fiF_none (n := n) (fun i hi => h i (by omega)), if_pos rfl, h n (by omega)]; rfl
theorem fiF_at {p : Nat → Bool} {i : Nat} (hp : p i = true) (hn : ∀ i', i' < i → p i' = false) : ∀ {n : Nat}, i < n → fiF p n = i
  | 0, h => absurd h (Nat.not_lt_zero _)
  | n + 1, h => by
    unfold fiF
    by_cases e : i = n
    · subst e; rw [fiF_none hn, if_pos rfl, hp]; rfl
    · have : fiF p n = i := fiF_at hp hn (by omega)
      rw [this, if_neg (by omega)]
/-- the seen noons of a keeping -/
def RS (c : Nat → Nat → Int32) (kp : Nat) (V : Nat → Nat → Nat) (S : Nat → Bool) : Prop := ∀ i, i < V 20 3 → (((c kp 2) >>> (nI i &&& 31)) &&& 1) = (if S i then 1 else 0)
def RSh (c : Nat → Nat → Int32) (e n te tn : Int) : Prop := c 60 0 = iI e ∧ c 60 1 = iI n ∧ c 60 2 = iI te ∧ c 60 3 = iI tn
theorem msb_neg (x : Int32) : x.toBitVec.msb = decide (x.toInt < 0) := by
  rw [BitVec.msb_eq_toInt]; rfl
theorem xor_sign {x y : Int32} (hy : 0 ≤ y.toInt) : (0 ≤ x ^^^ y) ↔ 0 ≤ x.toInt := by
  have h0 : (0 : Int32).toInt = 0 := rfl
  rw [Int32.le_iff_toInt_le, h0]
  have h1 := msb_neg (x ^^^ y)
  rw [Int32.toBitVec_xor, BitVec.msb_xor, msb_neg, msb_neg] at h1
  have h2 : decide (y.toInt < 0) = false := by simp; exact hy
  rw [h2, Bool.xor_false] at h1
  have h3 := decide_eq_decide.mp h1
  omega
theorem Z_div {e : Int} {k : Nat} (h1 : -2147483648 < e) (h2 : e < 2147483648) (hk : k < 2147483648) : iI e / nI k = iI (e.tdiv k) := by
  have ht : -2147483648 ≤ e.tdiv k ∧ e.tdiv k < 2147483648 := by
    have h3 : (e.tdiv k).natAbs ≤ e.natAbs := by rw [Int.natAbs_tdiv]; exact Nat.div_le_self _ _
    omega
  apply Int32.toInt_inj.mp
  rw [Int32.toInt_div_of_ne_left, Z_toInt (by omega) h2, N_toInt hk, Z_toInt ht.1 ht.2]
  intro e'
  have := congrArg Int32.toInt e'
  rw [Z_toInt (by omega) h2] at this
  have h3 : Int32.toInt Int32.minValue = -2147483648 := by decide
  omega
theorem tdiv_neg {e : Int} (h : e < 0) : e.tdiv 100 = -((-e) / 100) := by
  have : e.tdiv 100 = -((-e).tdiv 100) := by rw [Int.neg_tdiv]; omega
  rw [this, Int.tdiv_eq_ediv_of_nonneg (by omega)]
theorem floorD {e : Int} (h1 : -1000000 < e) (h2 : e < 1000000) (h : Hp) : J9_floorDiv_7cf53 (iI e) 100 h = some (iI (e / 100), h) := by
  unfold J9_floorDiv_7cf53
  rw [if_neg (by decide), pin_eq, show (100 : Int32) = nI 100 from rfl, Z_div (by omega) (by omega) (by omega)]
  have hx := xor_sign (x := iI e) (y := nI 100) (by decide)
  rw [Z_toInt (by omega) (by omega)] at hx
  by_cases he : 0 ≤ e
  · rw [if_pos (hx.mpr he), Int.tdiv_eq_ediv_of_nonneg he]; rfl
  · rw [if_neg (fun z => he (hx.mp z)), nI_iI, Z_mul, show ((100 : Nat) : Int) = 100 from rfl, tdiv_neg (by omega)]
    by_cases e2 : -(-e / 100) * 100 = e
    · rw [if_pos (by rw [e2])]; congr 3; omega
    · rw [if_neg (fun z => e2 ((Z_inj (by omega) (by omega) (by omega) (by omega)).mp z)), show (1 : Int32) = iI 1 from rfl, Z_sub]; congr 3; omega
theorem absJ {z : Int} (h1 : -1000000 < z) (h2 : z < 1000000) (h : Hp) : J9_abs_0f7a4 (iI z) h = some (iI (absI z), h) := by
  unfold J9_abs_0f7a4 absI
  have hz : (0 : Int32) ≤ iI z ↔ 0 ≤ z := Z_le (a := 0) (by omega) (by omega) (by omega) (by omega)
  rw [Z_neg]
  by_cases e : 0 ≤ z
  · rw [if_pos (hz.mpr e), if_pos e]
  · rw [if_neg (fun y => e (hz.mp y)), if_neg e]
section
variable {c : Nat → Nat → Int32} {j : Nat → Nat → Int64} {w : Nat → Nat} {m : Nat → Nat → Int32} {n : Nat → Nat → Int64} {v kp : Nat} {V K : Nat → Nat → Nat} {E L : Nat → Nat} {S : Nat → Bool}
theorem F60_g {f : Nat} (hf : f < 4) : gI (enc c j w m n) 60 7 f = some (c 60 f) := by
  have : f = 0 ∨ f = 1 ∨ f = 2 ∨ f = 3 := by omega
  rcases this with rfl | rfl | rfl | rfl
  all_goals exact gI_c rfl rfl (by decide)
theorem F60_p {f : Nat} (hf : f < 4) {x : Int32} : pF (enc c j w m n) 60 7 f (.int x) = some (enc (va_up c 60 (upd (c 60) f x)) j w m n) := by
  have : f = 0 ∨ f = 1 ∨ f = 2 ∨ f = 3 := by omega
  rcases this with rfl | rfl | rfl | rfl
  all_goals exact pF_c rfl rfl (by decide)
theorem F60_is : isC (enc c j w m n) 60 7 = true := isC_enc rfl
theorem c_setOut (x y : Int32) : ∃ c', X7_setOut 60 x y (enc c j w m n) = some (enc c' j w m n) ∧ (∀ z, z ≠ 60 → c' z = c z) ∧ c' 60 0 = x * 100 + 50 ∧ c' 60 1 = y * 100 + 50 ∧ c' 60 2 = x * 100 + 50 ∧ c' 60 3 = y * 100 + 50 := by
  unfold X7_setOut
  simp only [F60_p (show 0 < 4 by omega), F60_p (show 1 < 4 by omega), F60_p (show 2 < 4 by omega), F60_p (show 3 < 4 by omega), ob_some, F60_g (show 0 < 4 by omega), F60_g (show 1 < 4 by omega)]
  refine ⟨_, rfl, fun z hz => by simp [va_up, hz], ?_, ?_, ?_, ?_⟩
  all_goals simp [va_up, upd]
theorem c_go39 (x y s t : Int32) : ∃ c', X7_go_B39 60 x y s t (enc c j w m n) = some (enc c' j w m n) ∧ (∀ z, z ≠ 60 → c' z = c z) ∧ c' 60 0 = c 60 0 + s * x ∧ c' 60 1 = c 60 1 + t * x ∧ c' 60 2 = c 60 2 + s * y ∧ c' 60 3 = c 60 3 + t * y := by
  unfold X7_go_B39
  simp only [F60_p (show 0 < 4 by omega), F60_p (show 1 < 4 by omega), F60_p (show 2 < 4 by omega), F60_p (show 3 < 4 by omega), ob_some, F60_g (show 0 < 4 by omega), F60_g (show 1 < 4 by omega), F60_g (show 2 < 4 by omega), F60_g (show 3 < 4 by omega)]
  refine ⟨_, rfl, fun z hz => by simp [va_up, hz], ?_, ?_, ?_, ?_⟩
  all_goals simp [va_up, upd]
theorem c_go (x y : Int32) {q : Nat} (hq : q < 4) : ∃ c', X7_go 60 (nI q) x y (enc c j w m n) = some (enc c' j w m n) ∧ (∀ z, z ≠ 60 → c' z = c z) ∧ c' 60 0 = c 60 0 + iI (dx q) * x ∧ c' 60 1 = c 60 1 + iI (dy q) * x ∧ c' 60 2 = c 60 2 + iI (dx q) * y ∧ c' 60 3 = c 60 3 + iI (dy q) * y := by
  match q, hq with
  | 0, _ => exact c_go39 x y 0 1
  | 1, _ => exact c_go39 x y 1 0
  | 2, _ => exact c_go39 x y 0 (-1)
  | 3, _ => exact c_go39 x y (-1) 0
  | q + 4, h => omega
theorem c_seeNoon : ∃ c', X7_seeNoon 60 (enc c j w m n) = some (enc c' j w m n) ∧ (∀ z, z ≠ 60 → c' z = c z) ∧ c' 60 0 = c 60 0 ∧ c' 60 1 = c 60 1 ∧ c' 60 2 = c 60 2 ∧ c' 60 3 = c 60 1 := by
  unfold X7_seeNoon
  simp only [F60_p (show 3 < 4 by omega), ob_some, F60_g (show 1 < 4 by omega)]
  refine ⟨_, rfl, fun z hz => by simp [va_up, hz], ?_, ?_, ?_, ?_⟩
  all_goals simp [va_up, upd]
theorem c_noonSeen (hv : isV v) (hw : w 3 = v) (hk : isK kp) (g : GV V) (hV : RV c v V) (hS : RS c kp V S) {q : Nat} (hq : q < 100) : X6_isNoonSeen 59 kp (nI q) (enc c j w m n) = some (if nSeen V S q then 1 else 0, enc c j w m n) := by
  have g4 := g.1.2.2.2.1
  have g12 := g.1.2.2.1
  refine loop_up (z := fun _ _ _ _ _ => none) (s := X6_isNoonSeen_L2_s) (V 20 3) (fun i f => (∀ i', i' < i → V 5 i' ≠ q) → f 59 kp (nI q) (nI i) (enc c j w m n) = some (if nSeen V S q then 1 else 0, enc c j w m n)) ?_ ?_ 5000 0 (Nat.zero_le _) (by omega) (fun i h => absurd h (Nat.not_lt_zero _))
  · intro i f hi ih hn
    have hV5 := g.2.2.2.2.2.1 i hi
    unfold X6_isNoonSeen_L2_s
    rw [F59_3, hw, ob_some, V_3 hv, ob_some, T_count (V_noons hv), ob_some, show c (v + 7) 3 = nI (V 20 3) from hV.1 3 (by omega), if_neg (by rw [N_le (by omega) (by omega)]; omega), ob_some, V_3 hv, ob_some, cV_eq (T_is (V_noons hv)), T_cell0 (V_noons hv) (by omega) (by omega), bd_eq, hV.2.2.2.2.2.1 i hi]
    by_cases e : V 5 i = q
    · rw [if_pos (by rw [e]), K_2 hk, ob_some, hS i hi]
      have : nSeen V S q = S i := by
        unfold nSeen
        cases hs : S i with
        | true => rw [List.any_eq_true]; exact ⟨i, List.mem_range.mpr hi, by simp [e, hs]⟩
        | false =>
          rw [List.any_eq_false]
          intro i' hi'
          by_cases e' : V 5 i' = q
          · have := g.2.2.2.2.2.2.1 i i' hi (List.mem_range.mp hi') (by rw [e, e'])
            subst this; simp [hs]
          · simp [e']
      rw [this]
      cases S i with
      | true => rw [if_neg (show ¬ (if true = true then (1 : Int32) else 0) = 0 by decide), rZ_1]; rfl
      | false => rw [if_pos (show (if false = true then (1 : Int32) else 0) = 0 by decide), rZ_0]; rfl
    · rw [if_neg (by rw [N_inj (by omega) (by omega)]; exact e), show (1 : Int32) = nI 1 from rfl, N_add]
      refine ih fun i' hi' => ?_
      rcases Nat.lt_or_eq_of_le (Nat.le_of_lt_succ hi') with h1 | h1
      · exact hn i' h1
      · subst h1; exact e
  · intro f hn
    unfold X6_isNoonSeen_L2_s
    rw [F59_3, hw, ob_some, V_3 hv, ob_some, T_count (V_noons hv), ob_some, show c (v + 7) 3 = nI (V 20 3) from hV.1 3 (by omega), if_pos (by rw [N_le (by omega) (by omega)]; omega), rZ_0]
    have : nSeen V S q = false := by
      unfold nSeen
      rw [List.any_eq_false]
      intro i' hi'
      simp [hn i' (List.mem_range.mp hi')]
    rw [this]; rfl
theorem c_sailL (hv : isV v) (hw : w 3 = v) (hk : isK kp) (g : GV V) (gk : GK V K) (hV : RV c v V) (hK : RK c kp V K E) (hS : RS c kp V S) (hL : ∀ k, k < V 20 2 → c 62 k = nI (L k)) {a b : Nat} (hab : a ≤ b) (hb : b ≤ V 20 2) : ∀ c0 : Nat → Nat → Int32, (∀ y, y ≠ 60 → c0 y = c y) → RSh c0 (pE V K L a) (pN V K L a) (pTE V K a) (pTN V K L S a) → ∃ c', X6_sail_L28 5000 59 kp (nI b) (nI a) (enc c0 j w m n) = some (enc c' j w m n) ∧ (∀ y, y ≠ 60 → c' y = c y) ∧ RSh c' (pE V K L b) (pN V K L b) (pTE V K b) (pTN V K L S b) := by
  have g12 := g.1.2.2.1
  refine loop_up (z := fun _ _ _ _ _ => none) (s := X6_sail_L28_s) b (fun i f => ∀ c0 : Nat → Nat → Int32, (∀ y, y ≠ 60 → c0 y = c y) → RSh c0 (pE V K L i) (pN V K L i) (pTE V K i) (pTN V K L S i) → ∃ c', f 59 kp (nI b) (nI i) (enc c0 j w m n) = some (enc c' j w m n) ∧ (∀ y, y ≠ 60 → c' y = c y) ∧ RSh c' (pE V K L b) (pN V K L b) (pTE V K b) (pTN V K L S b)) ?_ ?_ 5000 a hab (by omega)
  · intro i f hi ih c0 f0 hs
    have hi' : i < V 20 2 := by omega
    have hV0 : RV c0 v V := hV.fr hv fun y _ _ => f0 y (by omega)
    have hK0 : RK c0 kp V K E := hK.fr (f0 _ (by rcases hk with rfl | rfl | rfl | rfl | rfl <;> decide)) (f0 _ (by rcases hk with rfl | rfl | rfl | rfl | rfl <;> decide))
    obtain ⟨c1, e1, f1, s0, s1, s2, s3⟩ := c_go (c := c0) (j := j) (w := w) (m := m) (n := n) ((240 - nI (L i)) * nI (V 4 i)) (240 * nI (V 4 i)) (gk i hi').2.1
    have f1' : ∀ y, y ≠ 60 → c1 y = c y := fun y hy => by rw [f1 y hy]; exact f0 y hy
    have hV1 : RV c1 v V := hV.fr hv fun y _ _ => f1' y (by omega)
    have hS1 : RS c1 kp V S := fun i hi => by rw [f1' kp (by rcases hk with rfl | rfl | rfl | rfl | rfl <;> decide)]; exact hS i hi
    have q0 : c1 60 0 = iI (pE V K L (i + 1)) := by
      rw [s0, hs.1, show (240 : Int32) = iI 240 from rfl, nI_iI, nI_iI, Z_sub, Z_mul, Z_mul, Z_add]; rfl
    have q1 : c1 60 1 = iI (pN V K L (i + 1)) := by
      rw [s1, hs.2.1, show (240 : Int32) = iI 240 from rfl, nI_iI, nI_iI, Z_sub, Z_mul, Z_mul, Z_add]; rfl
    have q2 : c1 60 2 = iI (pTE V K (i + 1)) := by
      rw [s2, hs.2.2.1, show (240 : Int32) = iI 240 from rfl, nI_iI, Z_mul, Z_mul, Z_add]; rfl
    have q3 : c1 60 3 = iI (pTN V K L S i + dy (K 1 i) * (240 * (V 4 i : Int))) := by
      rw [s3, hs.2.2.2, show (240 : Int32) = iI 240 from rfl, nI_iI, Z_mul, Z_mul, Z_add]
    unfold X6_sail_L28_s X6_sail_B112
    rw [if_neg (by rw [N_le (by omega) (by omega)]; omega), F59_3, hw, ob_some, V_2 hv, ob_some, cV_eq (T_is (V_wats hv)), T_cell3 (V_wats hv) (by omega) (by omega), bd_eq, (hV0.2.2.2.2.1 i hi').2.2.2, F59_1, ob_some, cV_eq (T_is lost_T), T_cell0 lost_T (by omega) (by omega), bd_eq, Nat.mul_one, f0 62 (by omega), hL i hi', pin_eq, F59_0, ob_some, K_0 hk, ob_some, cV_eq (T_is (K_wats hk)), T_cell1 (K_wats hk) (by omega) (by omega), bd_eq, (hK0.1 i hi').2.1, cVv_eq F60_is, e1, ob_some, cV_eq F59_is, show (1 : Int32) = nI 1 from rfl, N_add, c_noonSeen hv hw hk g hV1 hS1 (by omega), bd_eq]
    cases hn : nSeen V S (i + 1) with
    | false =>
      rw [if_pos (show (if false = true then (1 : Int32) else 0) = 0 by decide)]
      refine ih c1 f1' ⟨q0, q1, q2, ?_⟩
      rw [q3, pTN_succ, hn]; rfl
    | true =>
      obtain ⟨c2, e2, f2, t0, t1, t2, t3⟩ := c_seeNoon (c := c1) (j := j) (w := w) (m := m) (n := n)
      rw [if_neg (show ¬ (if true = true then (1 : Int32) else 0) = 0 by decide), F59_0, ob_some, cVv_eq F60_is, e2, ob_some]
      refine ih c2 (fun y hy => by rw [f2 y hy]; exact f1' y hy) ⟨by rw [t0]; exact q0, by rw [t1]; exact q1, by rw [t2]; exact q2, ?_⟩
      rw [t3, q1]; rw [pTN_succ, hn, if_pos rfl]
  · intro f c0 f0 hs
    refine ⟨c0, ?_, f0, hs⟩
    unfold X6_sail_L28_s
    rw [if_pos (by rw [N_le (by omega) (by omega)]; omega)]
theorem c_sail (hv : isV v) (hw : w 3 = v) (hk : isK kp) (g : GV V) (gk : GK V K) (hV : RV c v V) (hK : RK c kp V K E) (hS : RS c kp V S) (hL : ∀ k, k < V 20 2 → c 62 k = nI (L k)) {a b : Nat} (hab : a ≤ b) (hb : b ≤ V 20 2) (hs : a = 0 ∨ RSh c (pE V K L a) (pN V K L a) (pTE V K a) (pTN V K L S a)) : ∃ c', X6_sail 59 kp (nI a) (nI b) (enc c j w m n) = some (enc c' j w m n) ∧ (∀ y, y ≠ 60 → c' y = c y) ∧ RSh c' (pE V K L b) (pN V K L b) (pTE V K b) (pTN V K L S b) := by
  have g12 := g.1.2.2.1
  unfold X6_sail X6_sail_B25
  by_cases e : a = 0
  · subst e
    obtain ⟨c1, e1, f1, s0, s1, s2, s3⟩ := c_setOut (c := c) (j := j) (w := w) (m := m) (n := n) (nI (V 20 7)) (nI (V 20 8))
    rw [if_pos (show nI 0 = 0 from rfl), F59_0, ob_some, F59_3, hw, ob_some, V_i hv (by omega) (by omega), ob_some, ob_some, V_i hv (by omega) (by omega), ob_some, show c v 8 = nI (V 20 7) from hV.2.1 0 (by omega), show c v 9 = nI (V 20 8) from hV.2.1 1 (by omega), cVv_eq F60_is, e1, ob_some]
    have q : ∀ x : Nat, nI x * 100 + 50 = iI (100 * (x : Int) + 50) := fun x => by
      rw [nI_iI, show (100 : Int32) = iI 100 from rfl, show (50 : Int32) = iI 50 from rfl, Z_mul, Z_add, Int.mul_comm]
    exact c_sailL hv hw hk g gk hV hK hS hL hab hb c1 f1 ⟨by rw [s0]; exact q _, by rw [s1]; exact q _, by rw [s2]; exact q _, by rw [s3]; exact q _⟩
  · rw [if_neg (by rw [show (0 : Int32) = nI 0 from rfl, N_inj (by omega) (by omega)]; exact e)]
    exact c_sailL hv hw hk g gk hV hK hS hL hab hb c (fun _ _ => rfl) (hs.resolve_left e)
end
