/-! which watches to attend -/
def sav (V K : Nat → Nat → Nat) (k : Nat) : Nat := stl V K (V 1) k - stl V (KA K allS) (V 1) k
def swS (V K : Nat → Nat → Nat) (B : Nat → Bool) : Nat := sumN (stl V (KA K B) (V 1)) (V 20 2)
def b1 (s : Nat → Nat) : Nat → Nat
  | 0 => 0
  | k + 1 => if s (b1 s k) < s k then k else b1 s k
def bp (s : Nat → Nat) (T : Nat) : Nat → Int
  | 0 => -1
  | k + 1 => if T.testBit k then bp s T k else if bp s T k = -1 ∨ s (bp s T k).toNat < s k then (k : Int) else bp s T k
def gr (s : Nat → Nat) (N : Nat) : Nat → Nat × Nat
  | 0 => (0, 0)
  | i + 1 => if bp s (gr s N i).1 N = -1 then gr s N i else ((gr s N i).1 ||| (1 <<< (bp s (gr s N i).1 N).toNat), (gr s N i).2 + s (bp s (gr s N i).1 N).toNat)
def mostG (s : Nat → Nat) (N q : Nat) : Nat := (gr s N (min q N)).2
/-- how many are needed -/
def lft (s : Nat → Nat) (N : Nat) (need : Int) : Nat → Nat → Nat
  | 0, l => l
  | f + 1, l => if need ≤ (mostG s N l : Int) then l else lft s N need f (l + 1)
def lexS (s : Nat → Nat) : Nat → Nat → Int → Nat
  | 0, _, _ => 0
  | k + 1, l, need => if l = 0 then 0 else if need ≤ (mostG s k l : Int) then lexS s k l need else (1 <<< k) ||| lexS s k (l - 1) (need - s k)
def fewS (V K : Nat → Nat → Nat) (mi : Nat) : Int :=
  if (sumN (stl V K (V 1)) (V 20 2) : Int) - mi ≤ (mostG (sav V K) (V 20 2) (V 20 2) : Int) then ((lexS (sav V K) (V 20 2) (lft (sav V K) (V 20 2) ((sumN (stl V K (V 1)) (V 20 2) : Int) - mi) (V 20 2) 0) ((sumN (stl V K (V 1)) (V 20 2) : Int) - mi) : Nat) : Int) else -2
theorem bp_range {s : Nat → Nat} {T : Nat} : ∀ k, bp s T k = -1 ∨ (0 ≤ bp s T k ∧ bp s T k < k)
  | 0 => Or.inl rfl
  | k + 1 => by
    have := bp_range (s := s) (T := T) k
    unfold bp
    split
    · omega
    · split
      · right; omega
      · omega
theorem gr_lt {s : Nat → Nat} {N : Nat} : ∀ i, (gr s N i).1 < 2 ^ N
  | 0 => Nat.two_pow_pos _
  | i + 1 => by
    have h1 := gr_lt (s := s) (N := N) i
    have h2 := bp_range (s := s) (T := (gr s N i).1) N
    unfold gr
    split
    · exact h1
    · apply Nat.or_lt_two_pow h1
      rw [Nat.one_shiftLeft]; exact Nat.pow_lt_pow_right (by omega) (by omega)
theorem gr_le {s : Nat → Nat} {N : Nat} (hs : ∀ k, k < N → s k ≤ 160) : ∀ i, (gr s N i).2 ≤ 160 * i
  | 0 => Nat.le_refl _
  | i + 1 => by
    have h1 := gr_le hs i
    have h2 := bp_range (s := s) (T := (gr s N i).1) N
    unfold gr
    split
    · omega
    · have := hs (bp s (gr s N i).1 N).toNat (by omega)
      simp only; omega
theorem b1_lt {s : Nat → Nat} : ∀ k, 0 < k → b1 s k < k
  | 0, h => absurd h (by omega)
  | k + 1, _ => by
    unfold b1
    split
    · omega
    · rcases Nat.eq_zero_or_pos k with e | e
      · subst e; unfold b1; omega
      · have := b1_lt (s := s) k e; omega
section
variable {c : Nat → Nat → Int32} {j : Nat → Nat → Int64} {w : Nat → Nat} {m : Nat → Nat → Int32} {n : Nat → Nat → Int64} {v : Nat} {V K : Nat → Nat → Nat} {E L : Nat → Nat} {S : Nat → Bool}
theorem GKA (gk : GK V K) {B : Nat → Bool} : GK V (KA K B) := fun k hk => by
  refine ⟨?_, ?_, ?_⟩
  · unfold KA; rw [if_neg (by omega)]; exact (gk k hk).1
  · unfold KA; rw [if_neg (by omega)]; exact (gk k hk).2.1
  · unfold KA; split
    · decide
    · exact (gk k hk).2.2
theorem F68_0 : gR (enc c j w m n) 68 1 0 = some 59 := gR_k rfl rfl
theorem F68_1 : gR (enc c j w m n) 68 1 1 = some 69 := gR_k rfl rfl
theorem F68_is : isC (enc c j w m n) 68 1 = true := isC_enc rfl
theorem sv_T : isT 69 12 1 70 := ⟨rfl, rfl, by decide, by decide, by decide, by decide, by decide, by decide⟩
theorem c_trialA (h : CN c w v V K) {bi : Int32} {B : Nat → Bool} (hB : ∀ k, k < 12 → ((bi >>> (nI k &&& 31)) &&& 1) = (if B k then 1 else 0)) : ∃ c1 c', X6_trialOf 59 35 (enc c j w m n) = some (63, enc c1 j w m n) ∧ X4_attendAll 63 bi (enc c1 j w m n) = some (enc c' j w m n) ∧ fs c c' ∧ RK c' 63 V (KA K B) (V 1) ∧ (∀ y, (y < 63 ∨ 67 < y) → c' y = c y) := by
  obtain ⟨hv, hw, g, hV, gk, hK, h2⟩ := h
  obtain ⟨c1, e1, f1, k1, s1⟩ := c_trialOf (c := c) (j := j) (w := w) (m := m) (n := n) now_K (by decide) g hK (RS_all g h2)
  obtain ⟨c2, e2, f2, k2⟩ := c_attendAll (c := c1) (j := j) (w := w) (m := m) (n := n) trial_K g k1 hB
  exact ⟨c1, c2, e1, e2, fun y hy => by rw [f2 y (by omega), f1 y (by omega)], k2, fun y hy => by rw [f2 y (by omega), f1 y (by omega)]⟩
theorem c_stolenWith (h : CN c w v V K) {bi : Int32} {B : Nat → Bool} (hB : ∀ k, k < 12 → ((bi >>> (nI k &&& 31)) &&& 1) = (if B k then 1 else 0)) : ∃ c', X1_stolenWith 68 35 bi (enc c j w m n) = some (nI (swS V K B), enc c' j w m n) ∧ fr c c' := by
  obtain ⟨hv, hw, g, hV, gk, hK, h2⟩ := id h
  obtain ⟨c1, c2, e1, e2, f2, k2, -⟩ := c_trialA (c := c) (j := j) (w := w) (m := m) (n := n) h hB
  have hV2 : RV c2 v V := hV.fr hv fun y _ _ => f2 y (by omega)
  obtain ⟨c3, e3, f3, l3⟩ := c_reckon (c := c2) (j := j) (w := w) (m := m) (n := n) hv hw trial_K g (GKA gk) (GE1 g) hV2 k2
  have hV3 : RV c3 v V := hV2.fr hv fun y _ _ => f3 y (by omega)
  refine ⟨c3, ?_, fun y hy => by rw [f3 y (by omega), f2 y (by omega)]⟩
  unfold X1_stolenWith
  rw [F68_0, ob_some, cV_eq F59_is, e1, bd_eq, cVv_eq (K_is trial_K), e2, ob_some, F68_0, ob_some, cVv_eq F59_is, e3, ob_some, F68_0, ob_some, ob_some, F59_3, hw, ob_some, V_2 hv, ob_some, T_count (V_wats hv), ob_some, show c3 (v + 5) 3 = nI (V 20 2) from hV3.1 2 (by omega), cV_eq F59_is, c_lostBy g.1.2.2.1 l3, bd_eq]
  rfl
theorem ear_mono (kd e : Nat) : ear kd e true ≤ ear kd e false := by
  unfold ear
  by_cases h : kd = 0
  · rw [if_pos h, if_pos h]; exact Nat.le_refl _
  · rw [if_neg h, if_neg h]; show (if kd = 2 then e / 2 else 0) ≤ e; split <;> omega
theorem stl_att (g : GV V) {k : Nat} (hk : k < V 20 2) : stl V (KA K allS) (V 1) k ≤ stl V K (V 1) k := by
  have e0 : earOf V (KA K allS) (V 1) k = earOf V K (V 1) k := by
    funext b; unfold earOf; rw [show KA K allS 0 k = K 0 k by unfold KA; rw [if_neg (by omega)]]
  have e1 : lkOf V (KA K allS) k = 255 := by
    unfold lkOf; rw [show KA K allS 2 k = 1 by unfold KA; rw [if_pos ⟨rfl, rfl⟩], if_neg (by omega)]
  unfold stl
  rw [e0, e1]
  have h1 := pop8_le _ (lkOf_lt (K := K) g hk)
  have h2 : earOf V K (V 1) k true ≤ earOf V K (V 1) k false := ear_mono _ _
  rw [show pop8 255 = 8 from rfl]
  generalize pop8 (lkOf V K k) = p at *
  generalize earOf V K (V 1) k true = x at *
  generalize earOf V K (V 1) k false = y at *
  have h3 : 8 * x = p * x + (8 - p) * x := by rw [← Nat.add_mul]; congr 1; omega
  have h4 : (8 - p) * x ≤ (8 - p) * y := Nat.mul_le_mul (Nat.le_refl _) h2
  omega
theorem sav_le (g : GV V) (gk : GK V K) {k : Nat} (hk : k < V 20 2) : sav V K k ≤ 160 := by
  have := stl_le g gk (GE1 g) hk
  unfold sav; omega
theorem allbits : ∀ k, k < 12 → (((-1 : Int32) >>> (nI k &&& 31)) &&& 1) = (if allS k then 1 else 0) := by decide
theorem c_savings (h : CN c w v V K) : ∃ c', X1_findSavings 68 35 (enc c j w m n) = some (enc c' j w m n) ∧ fr c c' ∧ ∀ k, k < V 20 2 → c' 70 k = nI (sav V K k) := by
  obtain ⟨hv, hw, g, hV, gk, hK, h2⟩ := id h
  have g12 := g.1.2.2.1
  obtain ⟨c1, c2, e1, e2, f2, k2, -⟩ := c_trialA (c := c) (j := j) (w := w) (m := m) (n := n) h allbits
  unfold X1_findSavings
  rw [F68_0, ob_some, cV_eq F59_is, e1, bd_eq, cVv_eq (K_is trial_K), e2, ob_some]
  refine loop_up (z := fun _ _ _ _ _ => none) (s := X1_findSavings_L16_s) (V 20 2) (fun i f => ∀ c3 : Nat → Nat → Int32, (∀ y, y ≠ 70 → c3 y = c2 y) → (∀ k, k < i → c3 70 k = nI (sav V K k)) → ∃ c', f 68 35 63 (nI i) (enc c3 j w m n) = some (enc c' j w m n) ∧ fr c c' ∧ ∀ k, k < V 20 2 → c' 70 k = nI (sav V K k)) ?_ ?_ 5000 0 (Nat.zero_le _) (by omega) c2 (fun _ _ => rfl) (fun k h => absurd h (Nat.not_lt_zero _))
  · intro i f hi ih c3 f3 g3
    have fr3 : fr c c3 := fun y hy => by rw [f3 y (by omega), f2 y (by omega)]
    obtain ⟨-, -, -, hV3, -, hK3, -⟩ := h.fr fr3
    have k3 : RK c3 63 V (KA K allS) (V 1) := k2.fr (f3 _ (by omega)) (f3 _ (by omega))
    unfold X1_findSavings_L16_s
    rw [F68_0, ob_some, F59_3, hw, ob_some, V_2 hv, ob_some, T_count (V_wats hv), ob_some, show c3 (v + 5) 3 = nI (V 20 2) from hV3.1 2 (by omega), if_neg (by rw [N_le (by omega) (by omega)]; omega), F68_1, ob_some, ob_some, cV_eq F59_is, c_stolen hv hw now_K g gk (GE1 g) hV3 hK3 hi, bd_eq, F68_0, ob_some, cV_eq F59_is, c_stolen hv hw trial_K g (GKA gk) (GE1 g) hV3 k3 hi, bd_eq, N_sub (stl_att g hi), cVv_eq (T_is sv_T), T_put0 sv_T (by omega) (by omega), ob_some, show nI i + 1 = nI (i + 1) from N_add i 1]
    refine ih _ (fun y hy => by simp only [va_up, if_neg hy]; exact f3 y hy) fun k hk => ?_
    simp only [va_up, if_true, upd, Nat.mul_one]
    by_cases e : k = i
    · subst e; rw [if_pos rfl]; rfl
    · rw [if_neg e]; exact g3 k (by omega)
  · intro f c3 f3 g3
    have fr3 : fr c c3 := fun y hy => by rw [f3 y (by omega), f2 y (by omega)]
    obtain ⟨-, -, -, hV3, -, -, -⟩ := h.fr fr3
    refine ⟨c3, ?_, fr3, g3⟩
    unfold X1_findSavings_L16_s
    rw [F68_0, ob_some, F59_3, hw, ob_some, V_2 hv, ob_some, T_count (V_wats hv), ob_some, show c3 (v + 5) 3 = nI (V 20 2) from hV3.1 2 (by omega), if_pos (by rw [N_le (by omega) (by omega)]; omega)]
theorem c_bestOne (h : CN c w v V K) : ∃ c', X1_bestOne 68 35 (enc c j w m n) = some (nI (b1 (sav V K) (V 20 2)), enc c' j w m n) ∧ fr c c' := by
  obtain ⟨hv, hw, g, hV, gk, hK, h2⟩ := id h
  have g12 := g.1.2.2.1
  have g1 := g.1.2.2.2.2.2.2.2
  obtain ⟨c1, e1, f1, s1⟩ := c_savings (c := c) (j := j) (w := w) (m := m) (n := n) h
  obtain ⟨-, -, -, hV1, -, -, -⟩ := h.fr f1
  refine ⟨c1, ?_, f1⟩
  unfold X1_bestOne
  rw [cVv_eq F68_is, e1, ob_some]
  have hb1 : b1 (sav V K) 1 = 0 := by
    unfold b1; split <;> rfl
  rw [show (0 : Int32) = nI (b1 (sav V K) 1) by rw [hb1]; rfl]
  refine loop_up (z := fun _ _ _ _ => none) (s := X1_bestOne_L9_s) (V 20 2) (fun i f => 1 ≤ i → f 68 (nI (b1 (sav V K) i)) (nI i) (enc c1 j w m n) = some (nI (b1 (sav V K) (V 20 2)), enc c1 j w m n)) ?_ ?_ 5000 1 g1 (by omega) (Nat.le_refl _)
  · intro i f hi ih h1
    have hb := b1_lt (s := sav V K) i (by omega)
    have q1 := sav_le (K := K) g gk (k := i) hi
    have q2 := sav_le (K := K) g gk (k := b1 (sav V K) i) (by omega)
    unfold X1_bestOne_L9_s X1_bestOne_B49
    rw [F68_0, ob_some, F59_3, hw, ob_some, V_2 hv, ob_some, T_count (V_wats hv), ob_some, show c1 (v + 5) 3 = nI (V 20 2) from hV1.1 2 (by omega), if_neg (by rw [N_le (by omega) (by omega)]; omega), F68_1, ob_some, cV_eq (T_is sv_T), T_cell0 sv_T (by omega) (by omega), bd_eq, F68_1, ob_some, cV_eq (T_is sv_T), T_cell0 sv_T (by omega) (by omega), bd_eq, Nat.mul_one, Nat.mul_one, s1 i hi, s1 _ (by omega), show nI i + 1 = nI (i + 1) from N_add i 1]
    have := ih (by omega)
    rw [b1] at this
    by_cases e : sav V K (b1 (sav V K) i) < sav V K i
    · rw [if_pos e] at this
      rw [if_neg (by rw [N_le (by omega) (by omega)]; omega)]; exact this
    · rw [if_neg e] at this
      rw [if_pos (by rw [N_le (by omega) (by omega)]; omega)]; exact this
  · intro f _
    unfold X1_bestOne_L9_s
    rw [F68_0, ob_some, F59_3, hw, ob_some, V_2 hv, ob_some, T_count (V_wats hv), ob_some, show c1 (v + 5) 3 = nI (V 20 2) from hV1.1 2 (by omega), if_pos (by rw [N_le (by omega) (by omega)]; omega)]
theorem c_mostG {s : Nat → Nat} {M N q : Nat} (hM : M ≤ 12) (hN : N ≤ M) (hq : q < 100) (hs : ∀ k, k < M → c 70 k = nI (s k)) (hb : ∀ k, k < M → s k ≤ 160) : X1_most 68 (nI N) (nI q) (enc c j w m n) = some (nI (mostG s N q), enc c j w m n) := by
  refine loop_up (z := fun _ _ _ _ _ _ _ => none) (s := X1_most_L8_s) (min q N) (fun i f => f 68 (nI N) (nI q) (nI (gr s N i).1) (nI (gr s N i).2) (nI i) (enc c j w m n) = some (nI (mostG s N q), enc c j w m n)) ?_ ?_ 5000 0 (Nat.zero_le _) (by omega)
  · intro i f hi ih
    have hT := gr_lt (s := s) (N := N) i
    have hT2 : (gr s N i).1 < 4096 := Nat.lt_of_lt_of_le hT (by
      calc 2 ^ N ≤ 2 ^ 12 := Nat.pow_le_pow_right (by omega) (by omega)
        _ = 4096 := rfl)
    unfold X1_most_L8_s
    rw [if_neg (by rw [N_le (by omega) (by omega)]; omega), if_neg (by rw [N_le (by omega) (by omega)]; omega)]
    refine loop_up (z := fun _ _ _ _ _ _ _ _ _ => none) (s := X1_most_L26_s f) N (fun k f' => f' 68 (nI N) (nI q) (nI (gr s N i).1) (nI (gr s N i).2) (nI i) (iI (bp s (gr s N i).1 k)) (nI k) (enc c j w m n) = some (nI (mostG s N q), enc c j w m n)) ?_ ?_ 5000 0 (Nat.zero_le _) (by omega)
    · intro k f' hk ih'
      have hr := bp_range (s := s) (T := (gr s N i).1) k
      rw [bp] at ih'
      unfold X1_most_L26_s X1_most_B46 X1_most_B82 X1_most_B86
      rw [if_neg (by rw [N_le (by omega) (by omega)]; omega), N_bit (by omega) (by omega), show nI k + 1 = nI (k + 1) from N_add k 1]
      cases e : (gr s N i).1.testBit k with
      | true =>
        rw [e, if_pos rfl] at ih'
        rw [if_neg (show ¬ (if true = true then (1 : Int32) else 0) = 0 by decide), if_pos rfl]
        exact ih'
      | false =>
        rw [e, if_neg (by decide)] at ih'
        rw [if_pos (show (if false = true then (1 : Int32) else 0) = 0 by decide), if_neg (by decide)]
        have hz : iI (bp s (gr s N i).1 k) = -1 ↔ bp s (gr s N i).1 k = -1 := by
          have h := Z_inj (a := bp s (gr s N i).1 k) (b := -1) (by omega) (by omega) (by omega) (by omega)
          exact h
        by_cases e2 : bp s (gr s N i).1 k = -1
        · rw [if_pos (Or.inl e2)] at ih'
          rw [if_pos (hz.mpr e2), nI_iI k]
          exact ih'
        · rw [if_neg (fun z => e2 (hz.mp z))]
          have hbl : (bp s (gr s N i).1 k).toNat < k := by omega
          have hbe : iI (bp s (gr s N i).1 k) = nI (bp s (gr s N i).1 k).toNat := by rw [nI_iI, Int.toNat_of_nonneg (by omega)]
          have q1 := hb k (by omega)
          have q2 := hb (bp s (gr s N i).1 k).toNat (by omega)
          rw [F68_1, ob_some, cV_eq (T_is sv_T), T_cell0 sv_T (by omega) (by omega), bd_eq, F68_1, ob_some, cV_eq (T_is sv_T), hbe, T_cell0 sv_T (by omega) (by omega), bd_eq, Nat.mul_one, Nat.mul_one, hs k (by omega), hs _ (by omega)]
          by_cases e3 : s (bp s (gr s N i).1 k).toNat < s k
          · rw [if_pos (Or.inr e3), ← nI_iI k] at ih'
            rw [if_neg (by rw [N_le (by omega) (by omega)]; omega)]
            exact ih'
          · rw [if_neg (fun z => z.elim e2 e3), hbe] at ih'
            rw [if_pos (by rw [N_le (by omega) (by omega)]; omega)]
            exact ih'
    · intro f'
      have hr := bp_range (s := s) (T := (gr s N i).1) N
      rw [gr] at ih
      unfold X1_most_L26_s X1_most_B120
      rw [if_pos (by rw [N_le (by omega) (by omega)]; omega), show nI i + 1 = nI (i + 1) from N_add i 1]
      have hz : iI (bp s (gr s N i).1 N) = -1 ↔ bp s (gr s N i).1 N = -1 := by
        have h := Z_inj (a := bp s (gr s N i).1 N) (b := -1) (by omega) (by omega) (by omega) (by omega)
        exact h
      by_cases e2 : bp s (gr s N i).1 N = -1
      · rw [if_pos e2] at ih
        rw [if_pos (hz.mpr e2)]; exact ih
      · rw [if_neg e2] at ih
        have hbe : iI (bp s (gr s N i).1 N) = nI (bp s (gr s N i).1 N).toNat := by rw [nI_iI, Int.toNat_of_nonneg (by omega)]
        rw [if_neg (fun z => e2 (hz.mp z)), hbe, show (1 : Int32) = nI 1 from rfl, N_shl (by omega), N_or, pin_eq, F68_1, ob_some, cV_eq (T_is sv_T), T_cell0 sv_T (by omega) (by omega), bd_eq, Nat.mul_one, hs _ (by omega), pin_eq, N_add]
        exact ih
  · intro f
    unfold X1_most_L8_s
    by_cases e : q ≤ N
    · rw [if_pos (by rw [N_le (by omega) (by omega)]; omega)]; rfl
    · rw [if_neg (by rw [N_le (by omega) (by omega)]; omega), if_pos (by rw [N_le (by omega) (by omega)]; omega)]; rfl
theorem mostG_le {s : Nat → Nat} {N q : Nat} (hN : N ≤ 12) (hs : ∀ k, k < N → s k ≤ 160) : mostG s N q ≤ 1920 := by
  have := gr_le hs (min q N)
  unfold mostG; omega
theorem lft_le {s : Nat → Nat} {N : Nat} {need : Int} : ∀ f l, lft s N need f l ≤ l + f
  | 0, l => Nat.le_refl _
  | f + 1, l => by
    have := lft_le (s := s) (N := N) (need := need) f (l + 1)
    unfold lft
    split <;> omega
theorem sumN_b {f : Nat → Nat} {q N : Nat} (h : ∀ i, i < N → f i ≤ q) : sumN f N ≤ N * q := by
  induction N with
  | zero => simp [sumN]
  | succ N ih =>
    have h1 := ih (fun i hi => h i (by omega))
    have h2 := h N (by omega)
    rw [sumN, Nat.add_mul]; omega
/-- from above -/
theorem c_lexL {s : Nat → Nat} {M : Nat} (hM : M ≤ 12) (hs : ∀ k, k < M → c 70 k = nI (s k)) (hb : ∀ k, k < M → s k ≤ 160) : ∀ (k l : Nat) (need : Int) (B q : Nat), k ≤ M → l ≤ 12 → -10000 ≤ need - 160 * (k : Int) → need ≤ 10000 → k < q → X1_fewestFor_L84 q 68 (iI need) (nI l) (nI B) (iI ((k : Int) - 1)) (enc c j w m n) = some (nI (B ||| lexS s k l need), enc c j w m n)
  | k, l, need, B, 0, _, _, _, _, hq => absurd hq (Nat.not_lt_zero _)
  | 0, l, need, B, q + 1, _, _, _, _, _ => by
    rw [show X1_fewestFor_L84 (q + 1) = X1_fewestFor_L84_s (X1_fewestFor_L84 q) from rfl]
    unfold X1_fewestFor_L84_s lexS
    rw [if_pos (by decide), Nat.or_zero]
  | k + 1, l, need, B, q + 1, hk, hl, h1, h2, hq => by
    show X1_fewestFor_L84_s (X1_fewestFor_L84 q) _ _ _ _ _ _ = _
    unfold X1_fewestFor_L84_s X1_fewestFor_B134 lexS
    rw [show iI (((k + 1 : Nat) : Int) - 1) = nI k by rw [nI_iI]; congr 1; omega, if_neg (by rw [N_lt0 (by omega)]; exact id)]
    have hl0 : nI l ≤ 0 ↔ l = 0 := by rw [show (0 : Int32) = nI 0 from rfl, N_le (by omega) (by omega)]; omega
    by_cases e : l = 0
    · rw [if_pos (hl0.mpr e), if_pos e, Nat.or_zero]
    · have hmg := mostG_le (s := s) (N := k) (q := l) (by omega) (fun i hi => hb i (by omega))
      have hcmp : iI need ≤ nI (mostG s k l) ↔ need ≤ (mostG s k l : Int) := by
        rw [nI_iI]; exact Z_le (by omega) (by omega) (by omega) (by omega)
      have hsk := hb k (by omega)
      rw [if_neg (fun z => e (hl0.mp z)), if_neg e, cV_eq F68_is, c_mostG hM (by omega) (by omega) hs hb, bd_eq, show nI k + -1 = iI ((k : Int) - 1) by rw [nI_iI, show (-1 : Int32) = iI (-1) from rfl, Z_add]; rfl]
      by_cases e2 : need ≤ (mostG s k l : Int)
      · rw [if_pos (hcmp.mpr e2), if_pos e2]
        exact c_lexL hM hs hb k l need B q (by omega) hl (by omega) h2 (by omega)
      · rw [if_neg (fun z => e2 (hcmp.mp z)), if_neg e2, show nI l + -1 = nI (l - 1) by rw [nI_iI, nI_iI, show (-1 : Int32) = iI (-1) from rfl, Z_add]; congr 1; omega, show (1 : Int32) = nI 1 from rfl, N_shl (by omega), N_or, pin_eq, F68_1, ob_some, cV_eq (T_is sv_T), T_cell0 sv_T (by omega) (by omega), bd_eq, Nat.mul_one, hs k (by omega), pin_eq, nI_iI (s k), Z_sub]
        rw [c_lexL hM hs hb k (l - 1) (need - s k) (B ||| 1 <<< k) q (by omega) (by omega) (by omega) (by omega) (by omega), Nat.or_assoc]
theorem c_fewest (h : CN c w v V K) {mi : Nat} (hm : mi < 1000) : ∃ c', X1_fewestFor 68 35 (nI mi) (enc c j w m n) = some (iI (fewS V K mi), enc c' j w m n) ∧ fr c c' := by
  obtain ⟨hv, hw, g, hV, gk, hK, h2⟩ := id h
  have g12 := g.1.2.2.1
  obtain ⟨c1, e1, f1⟩ := c_stolenWith (c := c) (j := j) (w := w) (m := m) (n := n) h (bi := 0) (B := fun _ => false) (by decide)
  obtain ⟨c2, e2, f2, s2⟩ := c_savings (c := c1) (j := j) (w := w) (m := m) (n := n) (h.fr f1)
  have hsum : swS V K (fun _ => false) = sumN (stl V K (V 1)) (V 20 2) := by
    have : KA K (fun _ => false) = K := by funext r k; unfold KA; rw [if_neg (by simp)]
    unfold swS; rw [this]
  have hsb := sumN_b (f := stl V K (V 1)) (q := 160) (N := V 20 2) (fun i hi => stl_le g gk (GE1 g) hi)
  have hb : ∀ k, k < V 20 2 → sav V K k ≤ 160 := fun k hk => sav_le g gk hk
  refine ⟨c2, ?_, f1.tr f2⟩
  unfold X1_fewestFor
  rw [F68_0, ob_some, F59_3, hw, ob_some, V_2 hv, ob_some, T_count (V_wats hv), ob_some, show c (v + 5) 3 = nI (V 20 2) from hV.1 2 (by omega), cV_eq F68_is, e1, bd_eq, hsum, pin_eq, cVv_eq F68_is, e2, ob_some, cV_eq F68_is, c_mostG g12 (Nat.le_refl _) (by omega) s2 hb, bd_eq, nI_iI (sumN (stl V K (V 1)) (V 20 2)), nI_iI mi, Z_sub]
  unfold fewS
  generalize hne : (sumN (stl V K (V 1)) (V 20 2) : Int) - mi = need
  have hn1 : -1000 ≤ need := by omega
  have hn2 : need ≤ 2000 := by omega
  have hcmp : ∀ q, iI need ≤ nI (mostG (sav V K) (V 20 2) q) ↔ need ≤ (mostG (sav V K) (V 20 2) q : Int) := fun q => by
    have := mostG_le (s := sav V K) (N := V 20 2) (q := q) g12 hb
    rw [nI_iI]; exact Z_le (by omega) (by omega) (by omega) (by omega)
  by_cases e : need ≤ (mostG (sav V K) (V 20 2) (V 20 2) : Int)
  · rw [if_pos ((hcmp _).mpr e), if_pos e]
    have D : ∀ l, l ≤ 12 → X1_fewestFor_B76 68 (nI (V 20 2)) (iI need) (nI l) (enc c2 j w m n) = some (iI ((lexS (sav V K) (V 20 2) l need : Nat) : Int), enc c2 j w m n) := by
      intro l hl
      unfold X1_fewestFor_B76
      rw [pin_eq, nI_iI (V 20 2), show (1 : Int32) = iI 1 from rfl, Z_sub, show (0 : Int32) = nI 0 from rfl, c_lexL g12 s2 hb (V 20 2) l need 0 5000 (Nat.le_refl _) hl (by omega) (by omega) (by omega), Nat.zero_or, nI_iI]
    have U : ∀ (f l q : Nat), l + f = V 20 2 → f < q → X1_fewestFor_L49 q 68 (nI (V 20 2)) (iI need) (nI l) (nI l) (enc c2 j w m n) = some (iI ((lexS (sav V K) (V 20 2) (lft (sav V K) (V 20 2) need f l) need : Nat) : Int), enc c2 j w m n) := by
      intro f
      induction f with
      | zero =>
        intro l q hl hq
        match q, hq with
        | q + 1, _ =>
          show X1_fewestFor_L49_s (X1_fewestFor_L49 q) _ _ _ _ _ _ = _
          unfold X1_fewestFor_L49_s
          rw [if_pos (by rw [N_le (by omega) (by omega)]; omega)]
          exact D l (by omega)
      | succ f ihf =>
        intro l q hl hq
        match q, hq with
        | q + 1, hq =>
          show X1_fewestFor_L49_s (X1_fewestFor_L49 q) _ _ _ _ _ _ = _
          unfold X1_fewestFor_L49_s
          rw [if_neg (by rw [N_le (by omega) (by omega)]; omega), cV_eq F68_is, c_mostG g12 (Nat.le_refl _) (by omega) s2 hb, bd_eq]
          unfold lft
          by_cases e3 : need ≤ (mostG (sav V K) (V 20 2) l : Int)
          · rw [if_pos ((hcmp _).mpr e3), if_pos e3]
            exact D l (by omega)
          · rw [if_neg (fun z => e3 ((hcmp _).mp z)), if_neg e3, show nI l + 1 = nI (l + 1) from N_add l 1]
            exact ihf (l + 1) q (by omega) (by omega)
    exact U (V 20 2) 0 5000 (by omega) (by omega)
  · rw [if_neg (fun z => e ((hcmp _).mp z)), if_neg e]; rfl
end
