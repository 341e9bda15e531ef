/-! the reference: clouds, draws -/
def nb (t : Nat) : Nat → Bool := fun i => !(bits t i)
theorem wt_congr {V : Nat → Nat → Nat} {S S' : Nat → Bool} : ∀ {q : Nat}, (∀ i, i < q → S i = S' i) → wt V S q = wt V S' q
  | 0, _ => rfl
  | q + 1, h => by unfold wt; rw [wt_congr fun i hi => h i (by omega), h q (by omega)]
theorem nSeen_congr {V : Nat → Nat → Nat} {S S' : Nat → Bool} (h : ∀ i, i < V 20 3 → S i = S' i) (n : Nat) : nSeen V S n = nSeen V S' n := by
  unfold nSeen
  rw [Bool.eq_iff_iff, List.any_eq_true, List.any_eq_true]
  constructor
  · rintro ⟨i, hi, e⟩; exact ⟨i, hi, by rw [← h i (List.mem_range.mp hi)]; exact e⟩
  · rintro ⟨i, hi, e⟩; exact ⟨i, hi, by rw [h i (List.mem_range.mp hi)]; exact e⟩
theorem pTN_congr {V K : Nat → Nat → Nat} {L : Nat → Nat} {S S' : Nat → Bool} (h : ∀ i, i < V 20 3 → S i = S' i) : ∀ k, pTN V K L S k = pTN V K L S' k
  | 0 => rfl
  | k + 1 => by rw [pTN_succ, pTN_succ, nSeen_congr h, pTN_congr h k]
theorem aptS_congr {V K : Nat → Nat → Nat} {L : Nat → Nat} {S S' : Nat → Bool} (h : ∀ i, i < V 20 3 → S i = S' i) (b : Nat) : aptS V K L S b = aptS V K L S' b := by
  unfold aptS; rw [pTN_congr h]
theorem nb_bits {q t : Nat} (ht : t < 2 ^ q) : ∀ i, i < q → nb t i = bits (2 ^ q - 1 - t) i := by
  intro i hi
  unfold nb bits
  rw [show 2 ^ q - 1 - t = 2 ^ q - (t + 1) by omega, Nat.testBit_two_pow_sub_succ ht]
  simp [hi]
theorem sumN_congr {f g : Nat → Nat} : ∀ {N : Nat}, (∀ i, i < N → f i = g i) → sumN f N = sumN g N
  | 0, _ => rfl
  | N + 1, h => by rw [sumN, sumN, sumN_congr fun i hi => h i (by omega), h N (by omega)]
theorem sumN_front {f : Nat → Nat} : ∀ N, sumN f (N + 1) = f 0 + sumN (fun i => f (i + 1)) N
  | 0 => by simp [sumN]
  | N + 1 => by rw [sumN, sumN_front N, sumN]; omega
theorem sumN_rev {f : Nat → Nat} : ∀ N, sumN (fun i => f (N - 1 - i)) N = sumN f N
  | 0 => rfl
  | N + 1 => by
    rw [sumN_front, sumN, Nat.add_comm (sumN f N)]
    congr 1
    rw [← sumN_rev (f := f) N]
    exact sumN_congr fun i hi => by congr 1; omega
theorem sumN_add {f : Nat → Nat} (a : Nat) : ∀ b, sumN f (a + b) = sumN f a + sumN (fun i => f (a + i)) b
  | 0 => by simp [sumN]
  | b + 1 => by rw [← Nat.add_assoc, sumN, sumN_add a b, sumN]; omega
theorem sumN_mul {f : Nat → Nat} (q : Nat) : ∀ N, sumN (fun i => f i * q) N = sumN f N * q
  | 0 => by simp [sumN]
  | N + 1 => by rw [sumN, sumN, sumN_mul q N, Nat.add_mul]
theorem wt_sum {V : Nat → Nat → Nat} (hc : V 20 9 ≤ 100) : ∀ q, sumN (fun t => wt V (bits t) q) (2 ^ q) = 100 ^ q
  | 0 => by simp [sumN, wt]
  | q + 1 => by
    have e : 2 ^ (q + 1) = 2 ^ q + 2 ^ q := by rw [Nat.pow_succ]; omega
    rw [e, sumN_add]
    have h1 : sumN (fun t => wt V (bits t) (q + 1)) (2 ^ q) = sumN (fun t => wt V (bits t) q * V 20 9) (2 ^ q) := by
      refine sumN_congr fun t ht => ?_
      show wt V (bits t) q * (if bits t q then 100 - V 20 9 else V 20 9) = _
      rw [show bits t q = false from Nat.testBit_lt_two_pow ht]; rfl
    have h2 : sumN (fun t => wt V (bits (2 ^ q + t)) (q + 1)) (2 ^ q) = sumN (fun t => wt V (bits t) q * (100 - V 20 9)) (2 ^ q) := by
      refine sumN_congr fun t ht => ?_
      show wt V (bits (2 ^ q + t)) q * (if bits (2 ^ q + t) q then 100 - V 20 9 else V 20 9) = _
      have hb : bits (2 ^ q + t) q = true := by
        unfold bits
        rw [Nat.testBit_two_pow_add_eq, Nat.testBit_lt_two_pow ht]; rfl
      rw [hb, if_pos rfl, wt_congr (S' := bits t) fun i hi => by unfold bits; rw [Nat.testBit_two_pow_add_gt hi]]
    rw [h1, h2, sumN_mul, sumN_mul, wt_sum hc q, ← Nat.mul_add, Nat.pow_succ]
    congr 1; omega
def fwS (V K : Nat → Nat → Nat) (L : Nat → Nat) (b much N : Nat) : Nat := sumN (fun t => if aptS V K L (nb t) b ≤ (much : Int) then wt V (nb t) (V 20 3) else 0) N
def esS (V K : Nat → Nat → Nat) (L : Nat → Nat) (b N : Nat) : Nat := sumN (fun t => wt V (nb t) (V 20 3) * (aptS V K L (nb t) b).toNat) N
def awS (V : Nat → Nat → Nat) (N : Nat) : Nat := sumN (fun t => wt V (nb t) (V 20 3)) N
theorem nb_wt {V : Nat → Nat → Nat} {t : Nat} (ht : t < 2 ^ V 20 3) : wt V (nb t) (V 20 3) = wt V (bits (2 ^ V 20 3 - 1 - t)) (V 20 3) := wt_congr (nb_bits ht)
theorem awS_eq {V : Nat → Nat → Nat} (g : GV V) : awS V (2 ^ V 20 3) = 100 ^ V 20 3 := by
  unfold awS
  rw [← wt_sum g.2.1.2.2.1, ← sumN_rev (f := fun t => wt V (bits t) (V 20 3))]
  exact sumN_congr fun t ht => nb_wt ht
theorem fwS_eq {V K : Nat → Nat → Nat} {L : Nat → Nat} {b much : Nat} : fwS V K L b much (2 ^ V 20 3) = upO V K L b much (2 ^ V 20 3) := by
  unfold fwS upO
  rw [← sumN_rev (f := fun t => if aptS V K L (bits t) b ≤ (much : Int) then wt V (bits t) (V 20 3) else 0)]
  exact sumN_congr fun t ht => by rw [nb_wt ht, aptS_congr (nb_bits ht)]
theorem esS_eq {V K : Nat → Nat → Nat} {L : Nat → Nat} {b : Nat} : esS V K L b (2 ^ V 20 3) = upM V K L b (2 ^ V 20 3) := by
  unfold esS upM
  rw [← sumN_rev (f := fun t => wt V (bits t) (V 20 3) * (aptS V K L (bits t) b).toNat)]
  exact sumN_congr fun t ht => by rw [nb_wt ht, aptS_congr (nb_bits ht)]
theorem lo_S (q : Nat) : X11_lowest_L6 (q + 1) = X11_lowest_L6_s (X11_lowest_L6 q) := rfl
theorem m_gcd (h : Hp) {u d : Nat} (hu : u < 9223372036854775808) (hd : d < 9223372036854775808) (fl : Int32) : ∀ (k a b q : Nat), a < 9223372036854775808 → b < 9223372036854775808 → b < 2 ^ k → 2 * k < q → 0 < Nat.gcd a b → X11_lowest_L6 q (nJ u) (nJ d) fl (nJ a) (nJ b) h = some (nJ ((if fl = 0 then u else d) / Nat.gcd a b), h)
  | k, a, b, 0, _, _, _, hq, _ => absurd hq (Nat.not_lt_zero _)
  | k, a, 0, q + 1, ha, _, _, _, hg => by
    rw [Nat.gcd_zero_right] at hg ⊢
    rw [lo_S]
    unfold X11_lowest_L6_s X11_lowest_B41
    have hz : ¬ nJ a = 0 := fun z => by have := (NJ_inj (b := 0) ha (by omega)).mp z; omega
    rw [if_pos ((lgc0 (by omega)).mpr rfl), if_neg hz, if_neg hz]
    by_cases e : fl = 0
    · rw [if_pos e, if_pos e, NJ_div hu ha]
    · rw [if_neg e, if_neg e, NJ_div hd ha]
  | 0, a, b + 1, q + 1, _, _, hk, _, _ => by omega
  | k + 1, a, b + 1, q + 1, ha, hb, hk, hq, hg => by
    rw [lo_S]
    unfold X11_lowest_L6_s
    have hz : ¬ nJ (b + 1) = 0 := fun z => by have := (NJ_inj (b := 0) hb (by omega)).mp z; omega
    have h1 := Nat.mod_lt a (show b + 1 > 0 by omega)
    have hg1 : Nat.gcd a (b + 1) = Nat.gcd (b + 1) (a % (b + 1)) := by rw [Nat.gcd_comm a (b + 1), Nat.gcd_rec, Nat.gcd_comm]
    rw [if_neg (fun z => by have := (lgc0 hb).mp z; omega), if_neg hz, pin_eq, NJ_mod ha hb]
    match q, hq with
    | q + 1, hq =>
      by_cases e2 : a % (b + 1) = 0
      · rw [e2]
        rw [lo_S]
        unfold X11_lowest_L6_s X11_lowest_B41
        rw [hg1, e2, Nat.gcd_zero_right, if_pos ((lgc0 (by omega)).mpr rfl), if_neg hz, if_neg hz]
        by_cases e : fl = 0
        · rw [if_pos e, if_pos e, NJ_div hu hb]
        · rw [if_neg e, if_neg e, NJ_div hd hb]
      · rw [lo_S]
        unfold X11_lowest_L6_s
        have hz2 : ¬ nJ (a % (b + 1)) = 0 := fun z => e2 ((NJ_inj (b := 0) (by omega) (by omega)).mp z)
        have h2 := Nat.mod_lt (b + 1) (show a % (b + 1) > 0 by omega)
        have hg2 : Nat.gcd (b + 1) (a % (b + 1)) = Nat.gcd (a % (b + 1)) ((b + 1) % (a % (b + 1))) := by rw [Nat.gcd_comm (b + 1) (a % (b + 1)), Nat.gcd_rec, Nat.gcd_comm]
        rw [if_neg (fun z => e2 ((lgc0 (by omega)).mp z)), if_neg hz2, pin_eq, NJ_mod hb (by omega), hg1, hg2]
        exact m_gcd h hu hd fl k (a % (b + 1)) ((b + 1) % (a % (b + 1))) q (by omega) (by omega) (mod_half (by omega) (by omega) hk) (by omega) (by rw [← hg2, ← hg1]; exact hg)
theorem m_lowest (h : Hp) {u d : Nat} (hu : u < 2 ^ 50) (hd : d < 2 ^ 50) (hd0 : 0 < d) (fl : Int32) : X11_lowest (nJ u) (nJ d) fl h = some (nJ ((if fl = 0 then u else d) / Nat.gcd u d), h) := by
  rw [Nat.gcd_comm]
  exact m_gcd h (by omega) (by omega) fl 50 d u 5000 (by omega) (by omega) hu (by omega) (Nat.gcd_pos_of_pos_left _ hd0)
section
variable {c : Nat → Nat → Int32} {j : Nat → Nat → Int64} {w : Nat → Nat} {m : Nat → Nat → Int32} {n : Nat → Nat → Int64} {V K : Nat → Nat → Nat} {E L : Nat → Nat} {S : Nat → Bool}
/-- clouds laid, and sailed -/
theorem m_cloudTry (h : MN m V K) {t : Nat} (ht : t < 65536) : ∃ m1 m', X11_lay 75 82 0 (enc c j w m n) = some (enc c j w m1 n) ∧ X11_sail 75 (nI (V 20 2)) (enc c j w (va_up m1 75 (upd (m1 75) 31 (nI t))) n) = some (enc c j w m' n) ∧ MV (va_up m1 75 (upd (m1 75) 31 (nI t))) 78 V ∧ mf m m' ∧ RSail m' V K (lNw V K) (nb t) (V 20 2) := by
  obtain ⟨m1, e1, l1, -, d1, -⟩ := m_ldS (c := c) (j := j) (w := w) (m := m) (n := n) h
  have hV1 : MV (va_up m1 75 (upd (m1 75) 31 (nI t))) 78 V := d1.2.2.2.1.fr (vup_ne _ _ (by omega))
  obtain ⟨m2, e2, l2, r2⟩ := m_sailX (c := c) (j := j) (w := w) (m := va_up m1 75 (upd (m1 75) 31 (nI t))) (n := n) (S := nb t) h.1 h.2.1 (GE1 h.1) hV1 (d1.2.2.2.2.1.fr (vup_ne _ _ (by omega))) (fun b hb => by rw [vup_ne _ _ (by omega)]; exact d1.2.2.2.2.2.1 b hb) ⟨t, ht, by rw [vup_at, upd_at], fun i _ => rfl⟩ ⟨by rw [vup_at, upd_ne (by omega)]; exact d1.2.2.2.2.2.2.1, fun z => by cases z⟩ (Nat.le_refl _)
  refine ⟨m1, m2, e1, e2, hV1, ?_, r2⟩
  refine (mf_75 l1.mf fun f h1 h2 => upd_ne (by omega)).tr l2.mf
theorem m_errW (h : MN m V K) {t : Nat} (ht : t < 65536) : ∃ m', X11_errorWithout 75 (nI t) (enc c j w m n) = some (iI (aptS V K (lNw V K) (nb t) (V 20 2)), enc c j w m' n) ∧ mf m m' := by
  obtain ⟨m1, m2, e1, e2, hV1, f2, r2⟩ := m_cloudTry (c := c) (j := j) (w := w) (m := m) (n := n) h ht
  refine ⟨m2, ?_, f2⟩
  unfold X11_errorWithout
  rw [R75_19, ob_some, cVv75, e1, ob_some, P75_31, ob_some, R75_15, ob_some, rW hV1, ob_some, cVv75, e2, ob_some, R75_15, ob_some, rW (h.mf f2).2.2.1, ob_some, cV75, m_errorOf h.1 (lNw_le h.1 h.2.1) r2 (Nat.le_refl _) (Nat.le_refl _), bd_eq]
theorem nb0 : nb 0 = allS := by funext i; simp [nb, bits, allS]
theorem nb1 (k : Nat) : nb (1 <<< k) = butS k := by
  funext i
  unfold nb bits butS
  rw [one_bit]
  by_cases e : i = k <;> simp [e]
theorem m_dearL (h : MN m V K) : ∃ m1 m', X11_errorWithout 75 0 (enc c j w m n) = some (iI (aptS V K (lNw V K) allS (V 20 2)), enc c j w m1 n) ∧ X11_dearest_L28 5000 75 (-2) (iI (aptS V K (lNw V K) allS (V 20 2))) 0 (enc c j w m1 n) = some (iI (dearS V K), enc c j w m' n) ∧ mf m m' := by
  have g := h.1
  have g4 := g.1.2.2.2.1
  obtain ⟨m1, e1, f1⟩ := m_errW (c := c) (j := j) (w := w) (m := m) (n := n) h (t := 0) (by omega)
  rw [nb0] at e1
  have ha : ∀ i, 0 ≤ aptS V K (lNw V K) (butS i) (V 20 2) ∧ aptS V K (lNw V K) (butS i) (V 20 2) < 200000 := fun i => aptS_b g (lNw_le g h.2.1) (Nat.le_refl _)
  have ha0 : 0 ≤ aptS V K (lNw V K) allS (V 20 2) ∧ aptS V K (lNw V K) allS (V 20 2) < 200000 := aptS_b g (lNw_le g h.2.1) (Nat.le_refl _)
  have L := loop_up (z := fun _ _ _ _ _ => none) (s := X11_dearest_L28_s) (V 20 3) (fun i f => ∀ m2, mf m m2 → ∃ m', f 75 (iI (drs (fun i => aptS V K (lNw V K) (butS i) (V 20 2)) (aptS V K (lNw V K) allS (V 20 2)) i).1) (iI (drs (fun i => aptS V K (lNw V K) (butS i) (V 20 2)) (aptS V K (lNw V K) allS (V 20 2)) i).2) (nI i) (enc c j w m2 n) = some (iI (dearS V K), enc c j w m' n) ∧ mf m m') ?_ ?_ 5000 0 (Nat.zero_le _) (by omega) m1 f1
  · obtain ⟨m', e', f'⟩ := L
    exact ⟨m1, m', e1, e', f'⟩
  · intro i f hi ih m2 f2
    have hb := drs_b ha0 ha i
    have hs : 1 <<< i < 65536 := by rw [Nat.one_shiftLeft]; calc 2 ^ i ≤ 2 ^ 4 := Nat.pow_le_pow_right (by omega) (by omega)
                                                             _ < 65536 := by decide
    obtain ⟨m3, e3, f3⟩ := m_errW (c := c) (j := j) (w := w) (m := m2) (n := n) (h.mf f2) (t := 1 <<< i) hs
    rw [nb1] at e3
    have ih := ih m3 (f2.tr f3)
    unfold X11_dearest_L28_s X11_dearest_B61
    rw [R75_15, ob_some, rN (h.mf f2).2.2.1, ob_some, if_neg (by rw [N_le (by omega) (by omega)]; omega), cV75, show (1 : Int32) <<< (nI i &&& 31) = nI (1 <<< i) from N_shl (a := 1) (by omega), e3, bd_eq, show nI i + 1 = nI (i + 1) from N_add i 1]
    rw [drs] at ih
    have ha1 := ha i
    by_cases e : (drs (fun i => aptS V K (lNw V K) (butS i) (V 20 2)) (aptS V K (lNw V K) allS (V 20 2)) i).2 < aptS V K (lNw V K) (butS i) (V 20 2)
    · rw [if_pos e] at ih
      rw [if_pos (by rw [Z_lt (by omega) (by omega) (by omega) (by omega)]; exact e), nI_iI i]; exact ih
    · rw [if_neg e] at ih
      rw [if_neg (by rw [Z_lt (by omega) (by omega) (by omega) (by omega)]; exact e)]; exact ih
  · intro f m2 f2
    refine ⟨m2, ?_, f2⟩
    unfold X11_dearest_L28_s
    rw [R75_15, ob_some, rN (h.mf f2).2.2.1, ob_some, if_pos (by rw [N_le (by omega) (by omega)]; omega)]
    rfl
theorem updL_ne {f : Nat → Int64} {a b : Nat} {x : Int64} (h : b ≠ a) : vp_updL f a x b = f b := by simp [vp_updL, h]
theorem updL_at {f : Nat → Int64} {a : Nat} {x : Int64} : vp_updL f a x a = x := by simp [vp_updL]
/-- all clouds tried -/
theorem m_tryC (h : MN m V K) {b much : Nat} (hb : b ≤ V 20 2) (hm : much < 100000) : ∃ m' n', X11_tryClouds 75 (nI b) (nI much) (enc c j w m n) = some (enc c j w m' n') ∧ mf m m' ∧ (∀ y, y ≠ 75 → n' y = n y) ∧ n' 75 41 = nJ (awS V (2 ^ V 20 3)) ∧ n' 75 42 = nJ (fwS V K (lNw V K) b much (2 ^ V 20 3)) ∧ n' 75 43 = nJ (esS V K (lNw V K) b (2 ^ V 20 3)) := by
  have g := h.1
  have g4 := g.1.2.2.2.1
  have gc := g.2.1.2.2.1
  have hN := noons_lt g
  unfold X11_tryClouds
  rw [Q75_41, ob_some, Q75_42, ob_some, Q75_43, ob_some, vup_up, vup_up, vup_at, vup_at]
  refine loop_up (z := fun _ _ _ _ _ => none) (s := X11_tryClouds_L17_s) (2 ^ V 20 3) (fun i f => ∀ (m1 : Nat → Nat → Int32) (n1 : Nat → Nat → Int64), mf m m1 → (∀ y, y ≠ 75 → n1 y = n y) → n1 75 41 = nJ (awS V i) → n1 75 42 = nJ (fwS V K (lNw V K) b much i) → n1 75 43 = nJ (esS V K (lNw V K) b i) → ∃ m' n', f 75 (nI b) (nI much) (nI i) (enc c j w m1 n1) = some (enc c j w m' n') ∧ mf m m' ∧ (∀ y, y ≠ 75 → n' y = n y) ∧ n' 75 41 = nJ (awS V (2 ^ V 20 3)) ∧ n' 75 42 = nJ (fwS V K (lNw V K) b much (2 ^ V 20 3)) ∧ n' 75 43 = nJ (esS V K (lNw V K) b (2 ^ V 20 3))) ?_ ?_ 5000 0 (Nat.zero_le _) (by omega) m _ (mf.rf m) (fun y hy => vup_ne _ _ hy) (by rw [vup_at, updL_ne (by omega), updL_ne (by omega), updL_at]; rfl) (by rw [vup_at, updL_ne (by omega), updL_at]; rfl) (by rw [vup_at, updL_at]; rfl)
  · intro i f hi ih m1 n1 f1 o1 s1 s2 s3
    have h1 := h.mf f1
    unfold X11_tryClouds_L17_s
    rw [R75_15, ob_some, rN h1.2.2.1, ob_some, one_shl g, if_neg (by rw [N_le (by omega) (by omega)]; omega)]
    refine loop_up (z := fun _ _ _ _ _ _ _ => none) (s := X11_tryClouds_L35_s f) (V 20 3) (fun q f' => ∃ m' n', f' 75 (nI b) (nI much) (nI i) (nJ (wt V (nb i) q)) (nI q) (enc c j w m1 n1) = some (enc c j w m' n') ∧ mf m m' ∧ (∀ y, y ≠ 75 → n' y = n y) ∧ n' 75 41 = nJ (awS V (2 ^ V 20 3)) ∧ n' 75 42 = nJ (fwS V K (lNw V K) b much (2 ^ V 20 3)) ∧ n' 75 43 = nJ (esS V K (lNw V K) b (2 ^ V 20 3))) ?_ ?_ 5000 0 (Nat.zero_le _) (by omega)
    · intro q f' hq ih'
      unfold X11_tryClouds_L35_s X11_tryClouds_B77
      rw [R75_15, ob_some, rN h1.2.2.1, ob_some, if_neg (by rw [N_le (by omega) (by omega)]; omega), m_hasBit (by omega) (by omega), bd_eq, show nI q + 1 = nI (q + 1) from N_add q 1]
      rw [wt] at ih'
      cases e : i.testBit q with
      | true =>
        rw [show nb i q = false by simp [nb, bits, e], if_neg (by decide)] at ih'
        rw [if_neg (show ¬ (if true = true then (1 : Int32) else 0) = 0 by decide), R75_15, ob_some, show aI (enc c j w m1 n1) 78 0 = some (m1 78 0) from M78 (i := 0) (by omega), ob_some, h1.2.2.1.1.1, toJ_N (by omega), pin_eq, NJ_mul]
        exact ih'
      | false =>
        rw [show nb i q = true by simp [nb, bits, e], if_pos rfl] at ih'
        rw [if_pos (show (if false = true then (1 : Int32) else 0) = 0 by decide), R75_15, ob_some, show aI (enc c j w m1 n1) 78 0 = some (m1 78 0) from M78 (i := 0) (by omega), ob_some, h1.2.2.1.1.1, show (100 : Int32) = nI 100 from rfl, N_sub (by omega), toJ_N (by omega), pin_eq, NJ_mul]
        exact ih'
    · intro f'
      obtain ⟨m2, m3, e2, e3, hV2, f3, r3⟩ := m_cloudTry (c := c) (j := j) (w := w) (m := m1) (n := n1) h1 (t := i) (by omega)
      have ab := aptS_b (K := K) (S := nb i) g (lNw_le g h.2.1) hb
      have er : ∀ n2 : Nat → Nat → Int64, X11_errorOf 75 (nI b) (enc c j w m3 n2) = some (iI (aptS V K (lNw V K) (nb i) b), enc c j w m3 n2) := fun n2 => m_errorOf g (lNw_le g h.2.1) r3 (Nat.le_refl _) hb
      have hlt : nI much < iI (aptS V K (lNw V K) (nb i) b) ↔ (much : Int) < aptS V K (lNw V K) (nb i) b := by
        rw [nI_iI]; exact Z_lt (by omega) (by omega) (by omega) (by omega)
      have ej : (iI (aptS V K (lNw V K) (nb i) b)).toInt64 = nJ (aptS V K (lNw V K) (nb i) b).toNat := by
        rw [toJ_Z (by omega) (by omega), zJ_nat ab.1]
      have go : ∀ x : Nat, fwS V K (lNw V K) b much (i + 1) = fwS V K (lNw V K) b much i + x → ∃ m' n', X11_tryClouds_B141 f 75 (nI b) (nI much) (nI i) (nJ (wt V (nb i) (V 20 3))) 75 (nJ (fwS V K (lNw V K) b much i)) (nJ x) (enc c j w m3 (va_up n1 75 (vp_updL (n1 75) 41 (nJ (awS V i) + nJ (wt V (nb i) (V 20 3)))))) = some (enc c j w m' n') ∧ mf m m' ∧ (∀ y, y ≠ 75 → n' y = n y) ∧ n' 75 41 = nJ (awS V (2 ^ V 20 3)) ∧ n' 75 42 = nJ (fwS V K (lNw V K) b much (2 ^ V 20 3)) ∧ n' 75 43 = nJ (esS V K (lNw V K) b (2 ^ V 20 3)) := by
        intro x hx
        unfold X11_tryClouds_B141
        rw [Q75_42, ob_some, J75_43, ob_some, cV75, er, bd_eq, Q75_43, ob_some, ej, show nI i + 1 = nI (i + 1) from N_add i 1, vup_up, vup_up, vup_at, vup_at, NJ_add, NJ_add, NJ_mul]
        refine ih m3 _ (f1.tr f3) (fun y hy => by rw [vup_ne _ _ hy]; exact o1 y hy) ?_ ?_ ?_
        · rw [vup_at, updL_ne (by omega), updL_ne (by omega), updL_at]; rfl
        · rw [vup_at, updL_ne (by omega), updL_at, hx]
        · rw [vup_at, updL_at, updL_ne (by omega), updL_ne (by omega), s3, NJ_add]; rfl
      unfold X11_tryClouds_L35_s
      rw [R75_15, ob_some, rN h1.2.2.1, ob_some, if_pos (by rw [N_le (by omega) (by omega)]; omega), R75_19, ob_some, cVv75, e2, ob_some, P75_31, ob_some, R75_15, ob_some, rW hV2, ob_some, cVv75, e3, ob_some, J75_41, ob_some, s1, Q75_41, ob_some, J75_42, ob_some, vup_at, updL_ne (by omega), s2, cV75, er, bd_eq]
      by_cases e : (much : Int) < aptS V K (lNw V K) (nb i) b
      · rw [if_pos (hlt.mpr e)]
        exact go 0 (by unfold fwS; rw [sumN, if_neg (by omega)])
      · rw [if_neg (fun z => e (hlt.mp z))]
        exact go _ (by unfold fwS; rw [sumN, if_pos (by omega)])
  · intro f m1 n1 f1 o1 s1 s2 s3
    refine ⟨m1, n1, ?_, f1, o1, s1, s2, s3⟩
    unfold X11_tryClouds_L17_s
    rw [R75_15, ob_some, rN (h.mf f1).2.2.1, ob_some, one_shl g, if_pos (by rw [N_le (by omega) (by omega)]; omega)]
/-- draws -/
def wsd (V K : Nat → Nat → Nat) (s : Nat) : Nat → Nat
  | 0 => s
  | i + 1 => drS V K (V 1) (wsd V K s i) (V 20 2)
def wrk (V K : Nat → Nat → Nat) (s N : Nat) : Nat := sumN (fun i => if stk V K (drL V K (V 1) (wsd V K s i)) allS false = -2 then 0 else 1) N
theorem wsd_lt {s : Nat} (hs : s < 65537) : ∀ i, wsd V K s i < 65537
  | 0 => hs
  | i + 1 => drS_lt (wsd_lt hs i) _
/-- a trial that draws -/
def DW (m : Nat → Nat → Int32) (V K : Nat → Nat → Nat) (s : Nat) : Prop := MV m 78 V ∧ MK m 85 0 V K ∧ ME m V (V 1) ∧ RC m V allS ∧ RD m true s
theorem dwL_t (V K : Nat → Nat → Nat) (E : Nat → Nat) (s : Nat) : dwL V K E true s = drL V K E s := by funext k; simp [dwL]
theorem m_sailD (g : GV V) (gk : GK V K) {s : Nat} (h : DW m V K s) {q : Nat} (hq : q ≤ V 20 2) : ∃ m', X11_sail 75 (nI q) (enc c j w m n) = some (enc c j w m' n) ∧ ls m m' ∧ RSail m' V K (drL V K (V 1) s) allS q ∧ DW m' V K (drS V K (V 1) s q) := by
  obtain ⟨m', e, f1, f2, d, r⟩ := m_sail (c := c) (j := j) (w := w) (m := m) (n := n) g gk (GE1 g) h.1 h.2.1 h.2.2.1 h.2.2.2.1 h.2.2.2.2 hq
  rw [dwL_t] at r
  refine ⟨m', e, ⟨fun y h1 h2 => f1 y h1 (by omega), fun f h => f2 f (by omega)⟩, r, h.1.fr (f1 78 (by omega) (by omega)), h.2.1.fr (f1 85 (by omega) (by omega)), fun b hb => by rw [f1 86 (by omega) (by omega)]; exact h.2.2.1 b hb, ?_, d⟩
  obtain ⟨M, h1, h2, h3⟩ := h.2.2.2.1
  exact ⟨M, h1, by rw [f2 31 (by omega)]; exact h2, h3⟩
theorem drL_b (g : GV V) (gk : GK V K) (s : Nat) : ∀ k, k < V 20 2 → drL V K (V 1) s k ≤ 240 := fun k hk => Nat.le_trans (drL_le g gk (GE1 g) hk) (by omega)
theorem wrk_le (s N : Nat) : wrk V K s N ≤ N := by
  unfold wrk
  induction N with
  | zero => exact Nat.le_refl _
  | succ N ih => rw [sumN]; split <;> omega
theorem m_wrecksL (g : GV V) (gk : GK V K) {s : Nat} (h : DW m V K s) {q : Nat} (hq : q ≤ 20) : ∃ m', X11_wrecks_L33 5000 75 (nI q) 0 0 (enc c j w m n) = some (nI (wrk V K s q), enc c j w m' n) ∧ ls m m' := by
  refine loop_up (z := fun _ _ _ _ _ => none) (s := X11_wrecks_L33_s) q (fun i f => ∀ m1, ls m m1 → DW m1 V K (wsd V K s i) → ∃ m', f 75 (nI q) (nI (wrk V K s i)) (nI i) (enc c j w m1 n) = some (nI (wrk V K s q), enc c j w m' n) ∧ ls m m') ?_ ?_ 5000 0 (Nat.zero_le _) (by omega) m (ls.rf m) h
  · intro i f hi ih m1 l1 d1
    obtain ⟨m2, e2, l2, r2, d2⟩ := m_sailD (c := c) (j := j) (w := w) (m := m1) (n := n) g gk d1 (Nat.le_refl _)
    have hst := m_struck (c := c) (j := j) (w := w) (m := m2) (n := n) g d2.1 (drL_b g gk _) r2
    have ih := ih m2 (l1.tr l2) d2
    unfold X11_wrecks_L33_s X11_wrecks_B65
    rw [if_neg (by rw [N_le (by omega) (by omega)]; omega), R75_15, ob_some, rW d1.1, ob_some, cVv75, e2, ob_some, cV75, hst, bd_eq, pin_eq, pin_eq, show nI i + 1 = nI (i + 1) from N_add i 1]
    have hp : wrk V K s (i + 1) = wrk V K s i + (if stk V K (drL V K (V 1) (wsd V K s i)) allS false = -2 then 0 else 1) := rfl
    rw [hp] at ih
    by_cases e : stk V K (drL V K (V 1) (wsd V K s i)) allS false = -2
    · rw [if_pos e] at ih
      rw [if_pos ((stk_eq2 g).mpr e), show nI (wrk V K s i) + 0 = nI (wrk V K s i + 0) from N_add _ 0]; exact ih
    · rw [if_neg e] at ih
      rw [if_neg (fun z => e ((stk_eq2 g).mp z)), show nI (wrk V K s i) + 1 = nI (wrk V K s i + 1) from N_add _ 1]; exact ih
  · intro f m1 l1 d1
    refine ⟨m1, ?_, l1⟩
    unfold X11_wrecks_L33_s
    rw [if_pos (by rw [N_le (by omega) (by omega)]; omega)]
/-- laid for draws -/
theorem m_ldD (h : MN m V K) {s : Nat} (hs : s < 65537) : ∃ m1, X11_lay 75 82 0 (enc c j w m n) = some (enc c j w m1 n) ∧ mf m (va_up m1 75 (upd (upd (m1 75) 33 1) 32 (nI s))) ∧ DW (va_up m1 75 (upd (upd (m1 75) 33 1) 32 (nI s))) V K s := by
  obtain ⟨m1, e1, l1, -, d1, c1⟩ := m_ldS (c := c) (j := j) (w := w) (m := m) (n := n) h
  refine ⟨m1, e1, mf_75 l1.mf fun f h1 h2 => by rw [upd_ne (by omega), upd_ne (by omega)], d1.2.2.2.1.fr (vup_ne _ _ (by omega)), d1.2.2.2.2.1.fr (vup_ne _ _ (by omega)), fun b hb => by rw [vup_ne _ _ (by omega)]; exact d1.2.2.2.2.2.1 b hb, ?_, ?_⟩
  · obtain ⟨M, h1, h2, h3⟩ := c1
    exact ⟨M, h1, by rw [vup_at, upd_ne (by omega), upd_ne (by omega)]; exact h2, h3⟩
  · refine ⟨by rw [vup_at, upd_ne (by omega), upd_at]; rfl, fun _ => ⟨by rw [vup_at, upd_at], hs⟩⟩
end
