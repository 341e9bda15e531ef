def nJ (k : Nat) : Int64 := Int64.ofNat k
def zJ (z : Int) : Int64 := Int64.ofInt z
theorem nJ_zJ (k : Nat) : nJ k = zJ k := by unfold nJ zJ; apply Int64.toBitVec_inj.mp; simp
theorem ZJ_toInt {z : Int} (h1 : -9223372036854775808 ≤ z) (h2 : z < 9223372036854775808) : (zJ z).toInt = z := Int64.toInt_ofInt_of_le h1 h2
theorem NJ_toInt {k : Nat} (h : k < 9223372036854775808) : (nJ k).toInt = k := by rw [nJ_zJ, ZJ_toInt (by omega) (by omega)]
theorem ZJ_add (a b : Int) : zJ a + zJ b = zJ (a + b) := (Int64.ofInt_add a b).symm
theorem ZJ_mul (a b : Int) : zJ a * zJ b = zJ (a * b) := (Int64.ofInt_mul a b).symm
theorem ZJ_sub (a b : Int) : zJ a - zJ b = zJ (a - b) := (Int64.ofInt_sub a b).symm
theorem NJ_add (a b : Nat) : nJ a + nJ b = nJ (a + b) := by simp only [nJ_zJ, ZJ_add, Int.natCast_add]
theorem NJ_mul (a b : Nat) : nJ a * nJ b = nJ (a * b) := by simp only [nJ_zJ, ZJ_mul, Int.natCast_mul]
theorem NJ_sub {a b : Nat} (h : b ≤ a) : nJ a - nJ b = nJ (a - b) := by simp only [nJ_zJ, ZJ_sub]; congr 1; omega
theorem NJ_inj {a b : Nat} (ha : a < 9223372036854775808) (hb : b < 9223372036854775808) : (nJ a = nJ b) ↔ a = b := by
  rw [← Int64.toInt_inj, NJ_toInt ha, NJ_toInt hb]; omega
theorem NJ_lt {a b : Nat} (ha : a < 9223372036854775808) (hb : b < 9223372036854775808) : (nJ a < nJ b) ↔ a < b := by
  rw [Int64.lt_iff_toInt_lt, NJ_toInt ha, NJ_toInt hb]; omega
theorem NJ_div {a b : Nat} (ha : a < 9223372036854775808) (hb : b < 9223372036854775808) : nJ a / nJ b = nJ (a / b) := by
  apply Int64.toInt_inj.mp
  rw [Int64.toInt_div_of_ne_left, NJ_toInt ha, NJ_toInt hb, NJ_toInt (by exact Nat.lt_of_le_of_lt (Nat.div_le_self _ _) ha)]
  · exact Int.ofNat_tdiv a b |>.symm ▸ rfl
  · intro e
    have := congrArg Int64.toInt e
    rw [NJ_toInt ha] at this
    have h3 : Int64.toInt Int64.minValue = -9223372036854775808 := by decide
    omega
theorem NJ_mod {a b : Nat} (ha : a < 9223372036854775808) (hb : b < 9223372036854775808) : nJ a - nJ a / nJ b * nJ b = nJ (a % b) := by
  rw [NJ_div ha hb, NJ_mul, NJ_sub (Nat.div_mul_le_self a b)]
  congr 1
  have := Nat.div_add_mod a b
  rw [Nat.mul_comm] at this
  omega
theorem toJ_N {k : Nat} (h : k < 2147483648) : (nI k).toInt64 = nJ k := by
  apply Int64.toInt_inj.mp
  rw [Int32.toInt_toInt64, N_toInt h, NJ_toInt (by omega)]
theorem toJ_Z {z : Int} (h1 : -2147483648 ≤ z) (h2 : z < 2147483648) : (iI z).toInt64 = zJ z := by
  apply Int64.toInt_inj.mp
  rw [Int32.toInt_toInt64, Z_toInt h1 h2, ZJ_toInt (by omega) (by omega)]
theorem zJ_nat {z : Int} (h : 0 ≤ z) : zJ z = nJ z.toNat := by rw [nJ_zJ, Int.toNat_of_nonneg h]
theorem lgc0 {a : Nat} (h : a < 9223372036854775808) : (lg_cmp (nJ a) 0 = 0) ↔ a = 0 := by
  unfold lg_cmp
  have h1 : nJ a > 0 ↔ 0 < a := NJ_lt (a := 0) (by omega) h
  have h2 : nJ a = 0 ↔ a = 0 := NJ_inj (b := 0) h (by omega)
  by_cases e : a = 0
  · rw [if_neg (fun z => by have := h1.mp z; omega), if_pos (h2.mpr e)]; simp [e]
  · rw [if_pos (h1.mpr (by omega))]; simp [e]
theorem lgc1 {a : Nat} (h : a < 9223372036854775808) : (lg_cmp (nJ a) 1 ≤ 0) ↔ a ≤ 1 := by
  unfold lg_cmp
  have h1 : nJ a > 1 ↔ 1 < a := NJ_lt (a := 1) (by omega) h
  have h2 : nJ a = 1 ↔ a = 1 := NJ_inj (b := 1) h (by omega)
  by_cases e : 1 < a
  · rw [if_pos (h1.mpr e)]
    constructor
    · intro z; exact absurd z (by decide)
    · intro z; omega
  · rw [if_neg (fun z => e (h1.mp z))]
    constructor
    · intro _; omega
    · intro _
      split
      · decide
      · decide
/-- weights of noons -/
def wt (V : Nat → Nat → Nat) (S : Nat → Bool) : Nat → Nat
  | 0 => 1
  | i + 1 => wt V S i * (if S i then 100 - V 20 9 else V 20 9)
def aptS (V K : Nat → Nat → Nat) (L : Nat → Nat) (S : Nat → Bool) (b : Nat) : Int := apt (pE V K L b) (pN V K L b) (pTE V K b) (pTN V K L S b)
def upO (V K : Nat → Nat → Nat) (L : Nat → Nat) (b much N : Nat) : Nat := sumN (fun t => if aptS V K L (bits t) b ≤ (much : Int) then wt V (bits t) (V 20 3) else 0) N
def upM (V K : Nat → Nat → Nat) (L : Nat → Nat) (b N : Nat) : Nat := sumN (fun t => wt V (bits t) (V 20 3) * (aptS V K L (bits t) b).toNat) N
theorem absI_nn (z : Int) : 0 ≤ absI z := by unfold absI; split <;> omega
theorem pow100 {q : Nat} (h : q ≤ 4) : 100 ^ q ≤ 100000000 := by
  calc 100 ^ q ≤ 100 ^ 4 := Nat.pow_le_pow_right (by omega) h
    _ = 100000000 := rfl
theorem wt_le {V : Nat → Nat → Nat} (g : GV V) (S : Nat → Bool) : ∀ i, wt V S i ≤ 100 ^ i
  | 0 => Nat.le_refl _
  | i + 1 => by
    have h1 := wt_le g S i
    have h2 := g.2.1.2.2.1
    unfold wt
    rw [Nat.pow_succ]
    exact Nat.mul_le_mul h1 (by split <;> omega)
section
variable {c : Nat → Nat → Int32} {j : Nat → Nat → Int64} {w : Nat → Nat} {m : Nat → Nat → Int32} {n : Nat → Nat → Int64} {v : Nat} {V K : Nat → Nat → Nat} {E L : Nat → Nat} {S : Nat → Bool}
theorem aptS_b (g : GV V) (hL : ∀ k, k < V 20 2 → L k ≤ 240) {b : Nat} (hb : b ≤ V 20 2) : 0 ≤ aptS V K L S b ∧ aptS V K L S b < 200000 := by
  have g12 := g.1.2.2.1
  have b1 := bnd_lt (pE_b (K := K) g hL b hb) (by omega)
  have b2 := bnd_lt (pN_b (K := K) g hL b hb) (by omega)
  have b3 := bnd_lt (pTE_b (K := K) g b hb) (by omega)
  have b4 := bnd_lt (pTN_b (K := K) (S := S) g hL b hb) (by omega)
  unfold aptS apt absI
  split <;> split <;> omega
theorem sumN_le {f : Nat → Nat} {q : Nat} (h : ∀ i, f i ≤ q) : ∀ N, sumN f N ≤ N * q
  | 0 => by simp [sumN]
  | N + 1 => by
    have := sumN_le h N
    have := h N
    rw [sumN, Nat.add_mul]; omega
theorem noons_lt (g : GV V) : 2 ^ V 20 3 ≤ 16 := by
  have := g.1.2.2.2.1
  calc 2 ^ V 20 3 ≤ 2 ^ 4 := Nat.pow_le_pow_right (by omega) this
    _ = 16 := rfl
theorem upO_le (g : GV V) {b much N : Nat} (hN : N ≤ 16) : upO V K L b much N ≤ 1600000000 := by
  have hp := pow100 g.1.2.2.2.1
  have := sumN_le (f := fun t => if aptS V K L (bits t) b ≤ (much : Int) then wt V (bits t) (V 20 3) else 0) (q := 100000000) (fun i => by have := wt_le g (bits i) (V 20 3); show (if _ then _ else _) ≤ _; split <;> omega) N
  unfold upO; omega
theorem upM_le (g : GV V) (hL : ∀ k, k < V 20 2 → L k ≤ 240) {b N : Nat} (hb : b ≤ V 20 2) (hN : N ≤ 16) : upM V K L b N ≤ 320000000000000 := by
  have hp := pow100 g.1.2.2.2.1
  have := sumN_le (f := fun t => wt V (bits t) (V 20 3) * (aptS V K L (bits t) b).toNat) (q := 100000000 * 200000) (fun i => by
    have h1 := wt_le g (bits i) (V 20 3)
    have h2 := aptS_b (K := K) (S := bits i) g hL hb
    exact Nat.mul_le_mul (by omega) (by omega)) N
  unfold upM; omega
theorem F74_0 : gR (enc c j w m n) 74 2 0 = some 59 := gR_k rfl rfl
theorem F74_1 : gJ (enc c j w m n) 74 2 1 = some (j 74 1) := gJ_c rfl rfl (by decide)
theorem F74_2 : gJ (enc c j w m n) 74 2 2 = some (j 74 2) := gJ_c rfl rfl (by decide)
theorem F74_p1 {x : Int64} : pF (enc c j w m n) 74 2 1 (.long x) = some (enc c (va_up j 74 (vp_updL (j 74) 1 x)) w m n) := pF_cj rfl rfl (by decide)
theorem F74_p2 {x : Int64} : pF (enc c j w m n) 74 2 2 (.long x) = some (enc c (va_up j 74 (vp_updL (j 74) 2 x)) w m n) := pF_cj rfl rfl (by decide)
theorem F74_is : isC (enc c j w m n) 74 2 = true := isC_enc rfl
theorem c_apartS (h : CN c w v V K) (hL : ∀ k, k < V 20 2 → c 62 k = nI (L k)) (hL' : ∀ k, k < V 20 2 → L k ≤ 240) {seen : Int32} (hS : ∀ i, i < V 20 3 → ((seen >>> (nI i &&& 31)) &&& 1) = (if S i then 1 else 0)) {b : Nat} (hb : b ≤ V 20 2) : ∃ c', X2_apart 74 35 (nI b) seen (enc c j w m n) = some (iI (aptS V K L S b), enc c' j w m n) ∧ (∀ y, y ≠ 60 → (y < 63 ∨ 67 < y) → c' y = c y) := by
  obtain ⟨hv, hw, g, hV, gk, hK, h2⟩ := h
  have g12 := g.1.2.2.1
  obtain ⟨c1, e1, f1, k1, s1⟩ := c_trialOf (c := c) (j := j) (w := w) (m := m) (n := n) now_K (by decide) g hK (RS_all g h2)
  have q : ∀ y, y ≠ 63 → va_up c1 63 (upd (c1 63) 2 seen) y = c1 y := fun y hy => by simp only [va_up, if_neg hy]
  have hV2 : RV (va_up c1 63 (upd (c1 63) 2 seen)) v V := hV.fr hv fun y _ _ => by rw [q y (by omega), f1 y (by omega)]
  have hK2 : RK (va_up c1 63 (upd (c1 63) 2 seen)) 63 V K (V 1) := k1.fr (q _ (by omega)) (q _ (by omega))
  have hS2 : RS (va_up c1 63 (upd (c1 63) 2 seen)) 63 V S := fun i hi => by simp only [va_up, if_true, upd]; exact hS i hi
  have hL2 : ∀ k, k < V 20 2 → va_up c1 63 (upd (c1 63) 2 seen) 62 k = nI (L k) := fun k hk => by rw [q 62 (by omega), f1 62 (by omega)]; exact hL k hk
  obtain ⟨c2, e2, f2, s2⟩ := c_sail (c := va_up c1 63 (upd (c1 63) 2 seen)) (j := j) (w := w) (m := m) (n := n) hv hw trial_K g gk hV2 hK2 hS2 hL2 (a := 0) (b := b) (Nat.zero_le _) hb (Or.inl rfl)
  have b1 := bnd_lt (pE_b (K := K) g hL' b hb) (by omega)
  have b2 := bnd_lt (pN_b (K := K) g hL' b hb) (by omega)
  have b3 := bnd_lt (pTE_b (K := K) g b hb) (by omega)
  have b4 := bnd_lt (pTN_b (K := K) (S := S) g hL' b hb) (by omega)
  refine ⟨c2, ?_, fun y hy hy' => by rw [f2 y hy, q y (by omega), f1 y (by omega)]⟩
  unfold X2_apart
  rw [F74_0, ob_some, cV_eq F59_is, e1, bd_eq, K_p2 trial_K, ob_some, F74_0, ob_some, cVv_eq F59_is, show X6_sail 59 63 0 (nI b) (enc (va_up c1 63 (upd (c1 63) 2 seen)) j w m n) = _ from e2, ob_some, F74_0, ob_some, F59_0, ob_some, cV_eq F60_is, c_apart s2 b1 b2 b3 b4, bd_eq]
  rfl
theorem c_weight (hv : isV v) (hw : w 3 = v) (g : GV V) (hV : RV c v V) {t : Nat} (ht : t < 65536) : X2_weight 74 (nI t) (enc c j w m n) = some (nJ (wt V (bits t) (V 20 3)), enc c j w m n) := by
  have g4 := g.1.2.2.2.1
  have gc := g.2.1.2.2.1
  refine loop_up (z := fun _ _ _ _ _ => none) (s := X2_weight_L5_s) (V 20 3) (fun i f => f 74 (nI t) (nJ (wt V (bits t) i)) (nI i) (enc c j w m n) = some (nJ (wt V (bits t) (V 20 3)), enc c j w m n)) ?_ ?_ 5000 0 (Nat.zero_le _) (by omega)
  · intro i f hi ih
    unfold X2_weight_L5_s X2_weight_B57
    rw [F74_0, ob_some, F59_3, hw, ob_some, V_3 hv, ob_some, T_count (V_noons hv), ob_some, show c (v + 7) 3 = nI (V 20 3) from hV.1 3 (by omega), if_neg (by rw [N_le (by omega) (by omega)]; omega), ob_some, F59_3, hw, ob_some, V_i hv (by omega) (by omega), ob_some, show c v 10 = nI (V 20 9) from hV.2.1 2 (by omega), show nI i + 1 = nI (i + 1) from N_add i 1, show (100 : Int32) = nI 100 from rfl, N_sub (by omega), toJ_N (by omega), toJ_N (by omega), bits16 (s := t) ht i (by omega)]
    rw [wt] at ih
    cases e : bits t i with
    | false =>
      rw [e, if_neg (by simp)] at ih
      rw [if_pos (show (if false = true then (1 : Int32) else 0) = 0 by decide), pin_eq, NJ_mul]; exact ih
    | true =>
      rw [e, if_pos rfl] at ih
      rw [if_neg (show ¬ (if true = true then (1 : Int32) else 0) = 0 by decide), pin_eq, NJ_mul]; exact ih
  · intro f
    unfold X2_weight_L5_s
    rw [F74_0, ob_some, F59_3, hw, ob_some, V_3 hv, ob_some, T_count (V_noons hv), ob_some, show c (v + 7) 3 = nI (V 20 3) from hV.1 3 (by omega), if_pos (by rw [N_le (by omega) (by omega)]; omega)]
theorem mod_half {a b : Nat} (hb : 0 < b) (hr : 0 < a % b) {k : Nat} (hk : b < 2 ^ (k + 1)) : b % (a % b) < 2 ^ k := by
  have h1 := Nat.mod_lt a hb
  have h2 := Nat.mod_lt b hr
  have h3 : 2 ^ (k + 1) = 2 * 2 ^ k := by rw [Nat.pow_succ]; omega
  by_cases e : 2 * (a % b) ≤ b
  · omega
  · have : b % (a % b) = b - a % b := by
      rw [Nat.mod_eq_sub_mod (by omega), Nat.mod_eq_of_lt (by omega)]
    omega
theorem c_common (h : Hp) : ∀ (k a b i q : Nat), a < 9223372036854775808 → b < 9223372036854775808 → b < 2 ^ k → i + 2 * k < 200 → 2 * k < q → X2_commonOf_L9 q (nJ a) (nJ b) (nI i) h = some (nJ (Nat.gcd a b), h)
  | k, a, b, i, 0, _, _, _, _, hq => absurd hq (Nat.not_lt_zero _)
  | 0, a, b, i, q + 1, ha, hb, hk, hi, _ => by
    have hb0 : b = 0 := by omega
    subst hb0
    show X2_commonOf_L9_s (X2_commonOf_L9 q) _ _ _ _ = _
    unfold X2_commonOf_L9_s
    rw [if_neg (by rw [show (200 : Int32) = nI 200 from rfl, N_le (by omega) (by omega)]; omega), if_pos ((lgc0 (by omega)).mpr rfl), Nat.gcd_zero_right]
  | k + 1, a, b, i, q + 1, ha, hb, hk, hi, hq => by
    show X2_commonOf_L9_s (X2_commonOf_L9 q) _ _ _ _ = _
    unfold X2_commonOf_L9_s
    rw [if_neg (by rw [show (200 : Int32) = nI 200 from rfl, N_le (by omega) (by omega)]; omega)]
    by_cases e : b = 0
    · subst e; rw [if_pos ((lgc0 (by omega)).mpr rfl), Nat.gcd_zero_right]
    · have hz : ¬ nJ b = 0 := fun z => e ((NJ_inj (b := 0) hb (by omega)).mp z)
      rw [if_neg (fun z => e ((lgc0 hb).mp z)), if_neg hz, pin_eq, NJ_mod ha hb, show nI i + 1 = nI (i + 1) from N_add i 1]
      have h1 := Nat.mod_lt a (show b > 0 by omega)
      have hg1 : Nat.gcd a b = Nat.gcd b (a % b) := by rw [Nat.gcd_comm a b, Nat.gcd_rec, Nat.gcd_comm]
      match q, hq with
      | q + 1, hq =>
        show X2_commonOf_L9_s (X2_commonOf_L9 q) _ _ _ _ = _
        unfold X2_commonOf_L9_s
        rw [if_neg (by rw [show (200 : Int32) = nI 200 from rfl, N_le (by omega) (by omega)]; omega)]
        by_cases e2 : a % b = 0
        · rw [if_pos ((lgc0 (by omega)).mpr e2), hg1, e2, Nat.gcd_zero_right]
        · have hz2 : ¬ nJ (a % b) = 0 := fun z => e2 ((NJ_inj (b := 0) (by omega) (by omega)).mp z)
          rw [if_neg (fun z => e2 ((lgc0 (by omega)).mp z)), if_neg hz2, pin_eq, NJ_mod hb (by omega), show nI (i + 1) + 1 = nI (i + 2) from N_add (i + 1) 1]
          have h2 := Nat.mod_lt b (show a % b > 0 by omega)
          have hg2 : Nat.gcd b (a % b) = Nat.gcd (a % b) (b % (a % b)) := by rw [Nat.gcd_comm b (a % b), Nat.gcd_rec, Nat.gcd_comm]
          rw [hg1, hg2]
          exact c_common h k (a % b) (b % (a % b)) (i + 2) q (by omega) (by omega) (mod_half (by omega) (by omega) hk) (by omega) (by omega)
/-- to lowest terms -/
theorem c_lowest (hv : isV v) (hw : w 3 = v) (g : GV V) (hV : RV c v V) {u : Nat} (hu : u < 9223372036854775808) (h1 : j 74 1 = nJ u) : ∃ j', X2_bringToLowestTerms 74 (enc c j w m n) = some (enc c j' w m n) ∧ (∀ y, y ≠ 74 → j' y = j y) ∧ j' 74 1 = nJ (u / Nat.gcd u (100 ^ V 20 3)) ∧ j' 74 2 = nJ (100 ^ V 20 3 / Nat.gcd u (100 ^ V 20 3)) := by
  have g4 := g.1.2.2.2.1
  have hp := pow100 g4
  have hp0 : 0 < 100 ^ V 20 3 := Nat.pow_pos (by omega)
  unfold X2_bringToLowestTerms
  rw [F74_p2, ob_some]
  refine loop_up (z := fun _ _ _ => none) (s := X2_bringToLowestTerms_L7_s) (V 20 3) (fun i f => ∀ j1 : Nat → Nat → Int64, (∀ y, y ≠ 74 → j1 y = j y) → j1 74 1 = nJ u → j1 74 2 = nJ (100 ^ i) → ∃ j', f 74 (nI i) (enc c j1 w m n) = some (enc c j' w m n) ∧ (∀ y, y ≠ 74 → j' y = j y) ∧ j' 74 1 = nJ (u / Nat.gcd u (100 ^ V 20 3)) ∧ j' 74 2 = nJ (100 ^ V 20 3 / Nat.gcd u (100 ^ V 20 3))) ?_ ?_ 5000 0 (Nat.zero_le _) (by omega) _ (fun y hy => by simp only [va_up, if_neg hy]) (by simp [va_up, vp_updL]; exact h1) (by simp [va_up, vp_updL]; rfl)
  · intro i f hi ih j1 f1 u1 l1
    unfold X2_bringToLowestTerms_L7_s
    rw [F74_0, ob_some, F59_3, hw, ob_some, V_3 hv, ob_some, T_count (V_noons hv), ob_some, show c (v + 7) 3 = nI (V 20 3) from hV.1 3 (by omega), if_neg (by rw [N_le (by omega) (by omega)]; omega), F74_2, ob_some, F74_p2, ob_some, l1, show (100 : Int64) = nJ 100 from rfl, NJ_mul, show nI i + 1 = nI (i + 1) from N_add i 1]
    refine ih _ (fun y hy => by simp only [va_up, if_neg hy]; exact f1 y hy) (by simp [va_up, vp_updL]; exact u1) (by simp [va_up, vp_updL, Nat.pow_succ])
  · intro f j1 f1 u1 l1
    unfold X2_bringToLowestTerms_L7_s
    have hc := c_common (enc c j1 w m n) 27 u (100 ^ V 20 3) 0 5000 hu (by omega) (Nat.lt_of_le_of_lt hp (by decide)) (by omega) (by omega)
    rw [F74_0, ob_some, F59_3, hw, ob_some, V_3 hv, ob_some, T_count (V_noons hv), ob_some, show c (v + 7) 3 = nI (V 20 3) from hV.1 3 (by omega), if_pos (by rw [N_le (by omega) (by omega)]; omega), F74_1, ob_some, F74_2, ob_some, u1, l1, show X2_commonOf (nJ u) (nJ (100 ^ V 20 3)) (enc c j1 w m n) = _ from hc, bd_eq]
    have hgp : 0 < Nat.gcd u (100 ^ V 20 3) := Nat.gcd_pos_of_pos_right _ hp0
    have hgl : Nat.gcd u (100 ^ V 20 3) ≤ 100 ^ V 20 3 := Nat.gcd_le_right _ hp0
    by_cases e : Nat.gcd u (100 ^ V 20 3) ≤ 1
    · have e1 : Nat.gcd u (100 ^ V 20 3) = 1 := by omega
      rw [if_pos ((lgc1 (by omega)).mpr e), e1, Nat.div_one, Nat.div_one]
      exact ⟨j1, rfl, f1, u1, l1⟩
    · have hz : ¬ nJ (Nat.gcd u (100 ^ V 20 3)) = 0 := fun z => by
        have := (NJ_inj (b := 0) (by omega) (by omega)).mp z
        omega
      rw [if_neg (fun z => e ((lgc1 (by omega)).mp z)), F74_1, ob_some, u1, if_neg hz, F74_p1, ob_some, F74_2, ob_some, if_neg hz, F74_p2, ob_some]
      refine ⟨_, rfl, fun y hy => by simp only [va_up, if_neg hy]; exact f1 y hy, ?_, ?_⟩
      · simp [va_up, vp_updL]; rw [NJ_div hu (by omega)]
      · simp [va_up, vp_updL]; rw [l1, NJ_div (by omega) (by omega)]
theorem one_shl (g : GV V) : (1 : Int32) <<< (nI (V 20 3) &&& 31) = nI (2 ^ V 20 3) := by
  have := g.1.2.2.2.1
  rw [show (1 : Int32) = nI 1 from rfl, N_shl (by omega), Nat.one_shiftLeft]
def lNw (V K : Nat → Nat → Nat) : Nat → Nat := stl V K (V 1)
theorem lNw_le (g : GV V) (gk : GK V K) : ∀ k, k < V 20 2 → lNw V K k ≤ 240 := fun k hk => Nat.le_trans (stl_le g gk (GE1 g) hk) (by omega)
theorem bitsN (g : GV V) {t : Nat} (ht : t < 65536) : ∀ i, i < V 20 3 → ((nI t >>> (nI i &&& 31)) &&& 1) = (if bits t i then 1 else 0) := fun i hi => bits16 ht i (by have := g.1.2.2.2.1; omega)
theorem c_odds (h : CN c w v V K) {b much : Nat} (hb : b ≤ V 20 2) (hm : much < 100000) : ∃ c' j', X2_weighOdds 74 35 (nI b) (nI much) (enc c j w m n) = some (enc c' j' w m n) ∧ fr c c' ∧ (∀ y, y ≠ 74 → j' y = j y) ∧ j' 74 1 = nJ (upO V K (lNw V K) b much (2 ^ V 20 3) / Nat.gcd (upO V K (lNw V K) b much (2 ^ V 20 3)) (100 ^ V 20 3)) ∧ j' 74 2 = nJ (100 ^ V 20 3 / Nat.gcd (upO V K (lNw V K) b much (2 ^ V 20 3)) (100 ^ V 20 3)) := by
  obtain ⟨hv, hw, g, hV, gk, hK, h2⟩ := id h
  have hN := noons_lt g
  obtain ⟨c1, e1, f1, l1⟩ := c_reckon (c := c) (j := va_up j 74 (vp_updL (j 74) 1 0)) (w := w) (m := m) (n := n) hv hw now_K g gk (GE1 g) hV hK
  unfold X2_weighOdds
  rw [F74_p1, ob_some, F74_0, ob_some, cVv_eq F59_is, e1, ob_some]
  refine loop_up (z := fun _ _ _ _ _ _ => none) (s := X2_weighOdds_L16_s) (2 ^ V 20 3) (fun i f => ∀ (c2 : Nat → Nat → Int32) (j2 : Nat → Nat → Int64), fr c c2 → (∀ k, k < V 20 2 → c2 62 k = nI (lNw V K k)) → (∀ y, y ≠ 74 → j2 y = j y) → j2 74 1 = nJ (upO V K (lNw V K) b much i) → ∃ c' j', f 74 35 (nI b) (nI much) (nI i) (enc c2 j2 w m n) = some (enc c' j' w m n) ∧ fr c c' ∧ (∀ y, y ≠ 74 → j' y = j y) ∧ j' 74 1 = nJ (upO V K (lNw V K) b much (2 ^ V 20 3) / Nat.gcd (upO V K (lNw V K) b much (2 ^ V 20 3)) (100 ^ V 20 3)) ∧ j' 74 2 = nJ (100 ^ V 20 3 / Nat.gcd (upO V K (lNw V K) b much (2 ^ V 20 3)) (100 ^ V 20 3))) ?_ ?_ 5000 0 (Nat.zero_le _) (by omega) c1 _ (fun y hy => f1 y (by omega)) l1 (fun y hy => by simp only [va_up, if_neg hy]) (by simp [va_up, vp_updL]; rfl)
  · intro i f hi ih c2 j2 f2 l2 g2 u2
    obtain ⟨-, -, -, hV2, -, -, -⟩ := h.fr f2
    obtain ⟨c3, e3, f3⟩ := c_apartS (c := c2) (j := j2) (w := w) (m := m) (n := n) (h.fr f2) l2 (lNw_le g gk) (bitsN g (t := i) (by omega)) hb
    have fr3 : fr c c3 := f2.tr fun y hy => f3 y (by omega) (by omega)
    have l3 : ∀ k, k < V 20 2 → c3 62 k = nI (lNw V K k) := fun k hk => by rw [f3 62 (by omega) (by omega)]; exact l2 k hk
    obtain ⟨-, -, -, hV3, -, -, -⟩ := h.fr fr3
    have ab := aptS_b (K := K) (S := bits i) g (lNw_le g gk) hb
    unfold X2_weighOdds_L16_s X2_weighOdds_B63
    rw [F74_0, ob_some, F59_3, hw, ob_some, V_3 hv, ob_some, T_count (V_noons hv), ob_some, show c2 (v + 7) 3 = nI (V 20 3) from hV2.1 3 (by omega), one_shl g, if_neg (by rw [N_le (by omega) (by omega)]; omega), cV_eq F74_is, e3, bd_eq, show nI i + 1 = nI (i + 1) from N_add i 1]
    have hlt : nI much < iI (aptS V K (lNw V K) (bits i) b) ↔ (much : Int) < aptS V K (lNw V K) (bits i) b := by
      rw [nI_iI]; exact Z_lt (by omega) (by omega) (by omega) (by omega)
    by_cases e : (much : Int) < aptS V K (lNw V K) (bits i) b
    · rw [if_pos (hlt.mpr e)]
      refine ih c3 j2 fr3 l3 g2 ?_
      rw [u2]; unfold upO; rw [sumN, if_neg (by omega), Nat.add_zero]
    · rw [if_neg (fun z => e (hlt.mp z)), F74_1, ob_some, cV_eq F74_is, c_weight hv hw g hV3 (by omega), bd_eq, F74_p1, ob_some, u2, NJ_add]
      refine ih c3 _ fr3 l3 (fun y hy => by simp only [va_up, if_neg hy]; exact g2 y hy) ?_
      simp only [va_up, if_true, vp_updL]
      unfold upO; rw [sumN, if_pos (by omega)]
  · intro f c2 j2 f2 l2 g2 u2
    obtain ⟨-, -, -, hV2, -, -, -⟩ := h.fr f2
    have hu := upO_le (K := K) (L := lNw V K) (b := b) (much := much) g hN
    obtain ⟨j3, e3, f3, u3, d3⟩ := c_lowest (c := c2) (j := j2) (w := w) (m := m) (n := n) hv hw g hV2 (by omega) u2
    refine ⟨c2, j3, ?_, f2, fun y hy => by rw [f3 y hy]; exact g2 y hy, u3, d3⟩
    unfold X2_weighOdds_L16_s
    rw [F74_0, ob_some, F59_3, hw, ob_some, V_3 hv, ob_some, T_count (V_noons hv), ob_some, show c2 (v + 7) 3 = nI (V 20 3) from hV2.1 3 (by omega), one_shl g, if_pos (by rw [N_le (by omega) (by omega)]; omega), cVv_eq F74_is, e3, ob_some]
theorem c_mean (h : CN c w v V K) {b : Nat} (hb : b ≤ V 20 2) : ∃ c' j', X2_weighMean 74 35 (nI b) (enc c j w m n) = some (enc c' j' w m n) ∧ fr c c' ∧ (∀ y, y ≠ 74 → j' y = j y) ∧ j' 74 1 = nJ (upM V K (lNw V K) b (2 ^ V 20 3) / Nat.gcd (upM V K (lNw V K) b (2 ^ V 20 3)) (100 ^ V 20 3)) ∧ j' 74 2 = nJ (100 ^ V 20 3 / Nat.gcd (upM V K (lNw V K) b (2 ^ V 20 3)) (100 ^ V 20 3)) := by
  obtain ⟨hv, hw, g, hV, gk, hK, h2⟩ := id h
  have hN := noons_lt g
  obtain ⟨c1, e1, f1, l1⟩ := c_reckon (c := c) (j := va_up j 74 (vp_updL (j 74) 1 0)) (w := w) (m := m) (n := n) hv hw now_K g gk (GE1 g) hV hK
  unfold X2_weighMean
  rw [F74_p1, ob_some, F74_0, ob_some, cVv_eq F59_is, e1, ob_some]
  refine loop_up (z := fun _ _ _ _ _ => none) (s := X2_weighMean_L15_s) (2 ^ V 20 3) (fun i f => ∀ (c2 : Nat → Nat → Int32) (j2 : Nat → Nat → Int64), fr c c2 → (∀ k, k < V 20 2 → c2 62 k = nI (lNw V K k)) → (∀ y, y ≠ 74 → j2 y = j y) → j2 74 1 = nJ (upM V K (lNw V K) b i) → ∃ c' j', f 74 35 (nI b) (nI i) (enc c2 j2 w m n) = some (enc c' j' w m n) ∧ fr c c' ∧ (∀ y, y ≠ 74 → j' y = j y) ∧ j' 74 1 = nJ (upM V K (lNw V K) b (2 ^ V 20 3) / Nat.gcd (upM V K (lNw V K) b (2 ^ V 20 3)) (100 ^ V 20 3)) ∧ j' 74 2 = nJ (100 ^ V 20 3 / Nat.gcd (upM V K (lNw V K) b (2 ^ V 20 3)) (100 ^ V 20 3))) ?_ ?_ 5000 0 (Nat.zero_le _) (by omega) c1 _ (fun y hy => f1 y (by omega)) l1 (fun y hy => by simp only [va_up, if_neg hy]) (by simp [va_up, vp_updL]; rfl)
  · intro i f hi ih c2 j2 f2 l2 g2 u2
    obtain ⟨-, -, -, hV2, -, -, -⟩ := h.fr f2
    obtain ⟨c3, e3, f3⟩ := c_apartS (c := c2) (j := j2) (w := w) (m := m) (n := n) (h.fr f2) l2 (lNw_le g gk) (bitsN g (t := i) (by omega)) hb
    have fr3 : fr c c3 := f2.tr fun y hy => f3 y (by omega) (by omega)
    have l3 : ∀ k, k < V 20 2 → c3 62 k = nI (lNw V K k) := fun k hk => by rw [f3 62 (by omega) (by omega)]; exact l2 k hk
    have ab := aptS_b (K := K) (S := bits i) g (lNw_le g gk) hb
    unfold X2_weighMean_L15_s
    rw [F74_0, ob_some, F59_3, hw, ob_some, V_3 hv, ob_some, T_count (V_noons hv), ob_some, show c2 (v + 7) 3 = nI (V 20 3) from hV2.1 3 (by omega), one_shl g, if_neg (by rw [N_le (by omega) (by omega)]; omega), F74_1, ob_some, cV_eq F74_is, c_weight hv hw g hV2 (by omega), bd_eq, cV_eq F74_is, e3, bd_eq, F74_p1, ob_some, u2, toJ_Z (by omega) (by omega), zJ_nat ab.1, NJ_mul, NJ_add, show nI i + 1 = nI (i + 1) from N_add i 1]
    refine ih c3 _ fr3 l3 (fun y hy => by simp only [va_up, if_neg hy]; exact g2 y hy) ?_
    simp only [va_up, if_true, vp_updL]
    unfold upM; rw [sumN]
  · intro f c2 j2 f2 l2 g2 u2
    obtain ⟨-, -, -, hV2, -, -, -⟩ := h.fr f2
    have hu := upM_le (K := K) (L := lNw V K) (b := b) g (lNw_le g gk) hb hN
    obtain ⟨j3, e3, f3, u3, d3⟩ := c_lowest (c := c2) (j := j2) (w := w) (m := m) (n := n) hv hw g hV2 (by omega) u2
    refine ⟨c2, j3, ?_, f2, fun y hy => by rw [f3 y hy]; exact g2 y hy, u3, d3⟩
    unfold X2_weighMean_L15_s
    rw [F74_0, ob_some, F59_3, hw, ob_some, V_3 hv, ob_some, T_count (V_noons hv), ob_some, show c2 (v + 7) 3 = nI (V 20 3) from hV2.1 3 (by omega), one_shl g, if_pos (by rw [N_le (by omega) (by omega)]; omega), cVv_eq F74_is, e3, ob_some]
/-- the noon that is dearest to miss -/
def drs (a : Nat → Int) (a0 : Int) : Nat → Int × Int
  | 0 => (-2, a0)
  | i + 1 => if (drs a a0 i).2 < a i then ((i : Int), a i) else drs a a0 i
def butS (i : Nat) : Nat → Bool := fun q => q != i
def dearS (V K : Nat → Nat → Nat) : Int := (drs (fun i => aptS V K (lNw V K) (butS i) (V 20 2)) (aptS V K (lNw V K) allS (V 20 2)) (V 20 3)).1
theorem but_bits : ∀ i, i < 4 → ∀ q, q < 4 → ((((-1 : Int32)) &&& (((1 : Int32) <<< (nI i &&& 31)) ^^^ (-1))) >>> (nI q &&& 31)) &&& 1 = (if butS i q then 1 else 0) := by decide
theorem drs_b {a : Nat → Int} {a0 : Int} (h0 : 0 ≤ a0 ∧ a0 < 200000) (ha : ∀ i, 0 ≤ a i ∧ a i < 200000) : ∀ i, 0 ≤ (drs a a0 i).2 ∧ (drs a a0 i).2 < 200000
  | 0 => h0
  | i + 1 => by
    unfold drs
    split
    · exact ha i
    · exact drs_b h0 ha i
theorem c_dearest (h : CN c w v V K) : ∃ c', X2_dearestNoon 74 35 (enc c j w m n) = some (iI (dearS V K), enc c' j w m n) ∧ fr c c' := by
  obtain ⟨hv, hw, g, hV, gk, hK, h2⟩ := id h
  have g4 := g.1.2.2.2.1
  have g12 := g.1.2.2.1
  obtain ⟨c1, e1, f1, l1⟩ := c_reckon (c := c) (j := j) (w := w) (m := m) (n := n) hv hw now_K g gk (GE1 g) hV hK
  have fr1 : fr c c1 := fun y hy => f1 y (by omega)
  obtain ⟨c2, e2, f2⟩ := c_apartS (c := c1) (j := j) (w := w) (m := m) (n := n) (S := allS) (h.fr fr1) l1 (lNw_le g gk) (seen := -1) (fun i hi => (by decide : ∀ i, i < 4 → (((-1 : Int32)) >>> (nI i &&& 31)) &&& 1 = (if true = true then 1 else 0)) i (by omega)) (b := V 20 2) (Nat.le_refl _)
  have b0 := aptS_b (K := K) (S := allS) g (lNw_le g gk) (Nat.le_refl (V 20 2))
  have bi : ∀ i, 0 ≤ aptS V K (lNw V K) (butS i) (V 20 2) ∧ aptS V K (lNw V K) (butS i) (V 20 2) < 200000 := fun i => aptS_b (K := K) (S := butS i) g (lNw_le g gk) (Nat.le_refl (V 20 2))
  unfold X2_dearestNoon
  rw [F74_0, ob_some, F59_3, hw, ob_some, V_2 hv, ob_some, T_count (V_wats hv), ob_some, show c (v + 5) 3 = nI (V 20 2) from hV.1 2 (by omega), ob_some, cVv_eq F59_is, e1, ob_some, cV_eq F74_is, e2, bd_eq]
  refine loop_up (z := fun _ _ _ _ _ _ _ => none) (s := X2_dearestNoon_L37_s) (V 20 3) (fun i f => ∀ c3 : Nat → Nat → Int32, fr c c3 → (∀ k, k < V 20 2 → c3 62 k = nI (lNw V K k)) → ∃ c', f 74 35 (nI (V 20 2)) (iI (drs (fun i => aptS V K (lNw V K) (butS i) (V 20 2)) (aptS V K (lNw V K) allS (V 20 2)) i).1) (iI (drs (fun i => aptS V K (lNw V K) (butS i) (V 20 2)) (aptS V K (lNw V K) allS (V 20 2)) i).2) (nI i) (enc c3 j w m n) = some (iI (dearS V K), enc c' j w m n) ∧ fr c c') ?_ ?_ 5000 0 (Nat.zero_le _) (by omega) c2 (fr1.tr fun y hy => f2 y (by omega) (by omega)) (fun k hk => by rw [f2 62 (by omega) (by omega)]; exact l1 k hk)
  · intro i f hi ih c3 f3 l3
    obtain ⟨-, -, -, hV3, -, -, -⟩ := h.fr f3
    obtain ⟨c4, e4, f4⟩ := c_apartS (c := c3) (j := j) (w := w) (m := m) (n := n) (S := butS i) (h.fr f3) l3 (lNw_le g gk) (fun q hq => but_bits i (by omega) q (by omega)) (b := V 20 2) (Nat.le_refl _)
    have db := drs_b (a := fun i => aptS V K (lNw V K) (butS i) (V 20 2)) b0 bi i
    have bi' := bi i
    unfold X2_dearestNoon_L37_s X2_dearestNoon_B85
    rw [F74_0, ob_some, F59_3, hw, ob_some, V_3 hv, ob_some, T_count (V_noons hv), ob_some, show c3 (v + 7) 3 = nI (V 20 3) from hV3.1 3 (by omega), if_neg (by rw [N_le (by omega) (by omega)]; omega), cV_eq F74_is, e4, bd_eq, show nI i + 1 = nI (i + 1) from N_add i 1]
    have := ih c4 (f3.tr fun y hy => f4 y (by omega) (by omega)) (fun k hk => by rw [f4 62 (by omega) (by omega)]; exact l3 k hk)
    rw [drs] at this
    have hle := Z_le (a := aptS V K (lNw V K) (butS i) (V 20 2)) (b := (drs (fun i => aptS V K (lNw V K) (butS i) (V 20 2)) (aptS V K (lNw V K) allS (V 20 2)) i).2) (by omega) (by omega) (by omega) (by omega)
    by_cases e : (drs (fun i => aptS V K (lNw V K) (butS i) (V 20 2)) (aptS V K (lNw V K) allS (V 20 2)) i).2 < aptS V K (lNw V K) (butS i) (V 20 2)
    · rw [if_pos e] at this
      rw [if_neg (fun z => by have := hle.mp z; omega), nI_iI i]
      exact this
    · rw [if_neg e] at this
      rw [if_pos (hle.mpr (by omega))]
      exact this
  · intro f c3 f3 l3
    obtain ⟨-, -, -, hV3, -, -, -⟩ := h.fr f3
    refine ⟨c3, ?_, f3⟩
    unfold X2_dearestNoon_L37_s
    rw [F74_0, ob_some, F59_3, hw, ob_some, V_3 hv, ob_some, T_count (V_noons hv), ob_some, show c3 (v + 7) 3 = nI (V 20 3) from hV3.1 3 (by omega), if_pos (by rw [N_le (by omega) (by omega)]; omega)]
    rfl
end
