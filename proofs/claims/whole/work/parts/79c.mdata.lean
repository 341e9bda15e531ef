/-! the reference's data while it reads -/
def mb (t : Nat) : Nat := [12, 22, 26, 50, 54, 66, 74].getD t 0
def mw (t : Nat) : Nat := [2, 1, 2, 1, 2, 2, 3].getD t 0
def bid (x : Nat) : Nat := if x < 12 then 9 else if x < 22 then 0 else if x < 26 then 1 else if x < 50 then 2 else if x < 54 then 3 else if x < 66 then 4 else if x < 74 then 5 else if x < 83 then 6 else 8
theorem bid_ok0 : ∀ t, t < 7 → ∀ i, i < 12 → ∀ q, q < 3 → i < cap t → q < mw t → bid (mb t + mw t * i + q) = t := by decide
theorem mw_ok : ∀ t, t < 7 → 1 ≤ mw t ∧ mw t ≤ 3 ∧ 12 ≤ mb t := by decide
theorem bid_ok {t i q : Nat} (ht : t < 7) (hi : i < cap t) (hq : q < mw t) : bid (mb t + mw t * i + q) = t := bid_ok0 t ht i (by have := cap_le t ht; omega) q (by have := mw_ok t ht; omega) hi hq
theorem bid_lt {x t : Nat} (ht : t < 7) (h : bid x = t) : 12 ≤ x ∧ x < 83 := by
  unfold bid at h
  repeat' split at h
  all_goals omega
def mcol (V : Nat → Nat → Nat) (t q i : Nat) : Nat :=
  if t = 0 then (if q = 0 then V 0 i else V 1 i)
  else if t = 1 then V 2 i
  else if t = 2 then (if q = 0 then V 3 i else V 4 i)
  else if t = 3 then V 5 i
  else if t = 4 then (if q = 0 then V 17 i else V 18 i)
  else if t = 5 then (if q = 0 then V 7 i else V 8 i)
  else (if q = 0 then V 9 i else if q = 1 then V 21 i else V 22 i)
theorem mcol_lt {V : Nat → Nat → Nat} {t : Nat} {g : Nat → Option Nat} {t' q i : Nat} (h : i ≠ V 20 t) : mcol (ad V t g) t' q i = mcol V t' q i := by
  unfold mcol
  repeat' split
  all_goals exact ad_lt (by decide) h
theorem mcol_ot {V : Nat → Nat → Nat} {t : Nat} {g : Nat → Option Nat} (hg : GG t g) {t' q i : Nat} (ht : t < 7) (ht' : t' < 7) (h : t ≠ t') : mcol (ad V t g) t' q i = mcol V t' q i := by
  have o : ∀ a, a < 23 → a ≠ 20 → own t' a = true → ad V t g a i = V a i := fun a ha h20 hh => ad_ot hg h20 (by
    cases e : own t a with
    | false => rfl
    | true => have := own_1 t ht t' ht' h a ha e; rw [hh] at this; cases this)
  unfold mcol
  match t', ht' with
  | 0, _ => simp only [if_true]; rw [o 0 (by decide) (by decide) rfl, o 1 (by decide) (by decide) rfl]
  | 1, _ => simp only [if_true, if_false, Nat.one_ne_zero, Nat.reduceEqDiff]; rw [o 2 (by decide) (by decide) rfl]
  | 2, _ => simp only [if_true, if_false, Nat.reduceEqDiff]; rw [o 3 (by decide) (by decide) rfl, o 4 (by decide) (by decide) rfl]
  | 3, _ => simp only [if_true, if_false, Nat.reduceEqDiff]; rw [o 5 (by decide) (by decide) rfl]
  | 4, _ => simp only [if_true, if_false, Nat.reduceEqDiff]; rw [o 17 (by decide) (by decide) rfl, o 18 (by decide) (by decide) rfl]
  | 5, _ => simp only [if_true, if_false, Nat.reduceEqDiff]; rw [o 7 (by decide) (by decide) rfl, o 8 (by decide) (by decide) rfl]
  | 6, _ => simp only [if_true, if_false, Nat.reduceEqDiff]; rw [o 9 (by decide) (by decide) rfl, o 21 (by decide) (by decide) rfl, o 22 (by decide) (by decide) rfl]
def MDt (m : Nat → Nat → Int32) (T : Nat → Nat) (V : Nat → Nat → Nat) : Prop :=
  (m 79 0 = nI (V 20 9) ∧ m 79 1 = nI (V 20 10) ∧ m 79 10 = nI (V 20 7) ∧ m 79 11 = nI (V 20 8)) ∧ (∀ t, t < 7 → m 79 (2 + t) = nI (V 20 t)) ∧ m 79 9 = nI (V 20 11) ∧
  (∀ t, t < 7 → ∀ i, i < V 20 t → ∀ q, q < mw t → m 79 (mb t + mw t * i + q) = nI (mcol V t q i)) ∧
  (∀ k, k < V 20 2 → m 81 k = nI (V 12 k) ∧ m 81 (12 + k) = nI (V 11 k)) ∧ m 81 24 = 0 ∧ NMM m T V
section
variable {c : Nat → Nat → Int32} {j : Nat → Nat → Int64} {w : Nat → Nat} {m m' : Nat → Nat → Int32} {n : Nat → Nat → Int64} {T : Nat → Nat} {s p : Nat} {V : Nat → Nat → Nat}
theorem MDt.fr (h : MDt m T V) (e1 : m' 79 = m 79) (e2 : m' 81 = m 81) : MDt m' T V := by
  unfold MDt NMM at *
  rw [e1, e2]; exact h
theorem md_add (h : MDt m T V) (gp : GP T V) {t : Nat} (ht : t < 7) (hc : V 20 t < cap t) {g : Nat → Option Nat} (hg : GG t g)
    (A1 : ∀ x, x ≠ 2 + t → (x < mb t + mw t * V 20 t ∨ mb t + mw t * V 20 t + mw t ≤ x) → (t < 2 → x ≠ 83 + 5 * t + V 20 t ∧ (x < 92 + 8 * (5 * t + V 20 t) ∨ 92 + 8 * (5 * t + V 20 t) + 8 ≤ x)) → m' 79 x = m 79 x)
    (A2 : m' 79 (2 + t) = nI (V 20 t + 1))
    (A3 : ∀ q, q < mw t → m' 79 (mb t + mw t * V 20 t + q) = nI (mcol (ad V t g) t q (V 20 t)))
    (A4 : t ≠ 2 → m' 81 = m 81)
    (A5 : t = 2 → m' 81 (V 20 2) = nI (ad V t g 12 (V 20 2)) ∧ m' 81 (12 + V 20 2) = nI (ad V t g 11 (V 20 2)) ∧ ∀ x, x ≠ V 20 2 → x ≠ 12 + V 20 2 → m' 81 x = m 81 x)
    (A6 : t < 2 → m' 79 (83 + 5 * t + V 20 t) = nI (ad V t g (15 + t) (V 20 t)) ∧ ∀ k, k < ad V t g (15 + t) (V 20 t) → m' 79 (92 + 8 * (5 * t + V 20 t) + k) = nI (T (ad V t g (13 + t) (V 20 t) + k))) : MDt m' T (ad V t g) := by
  obtain ⟨⟨h1, h2, h3, h4⟩, h5, h6, h7, h8, h9, h10, h11⟩ := h
  obtain ⟨w1, w2, w3⟩ := mw_ok t ht
  have hcap := cap_le t ht
  have C : ∀ t', t' ≠ t → ad V t g 20 t' = V 20 t' := fun t' h => ad_o h
  -- the row that is added lies in its own block
  have hi83 : mb t + mw t * V 20 t + mw t ≤ 83 := by
    have := bid_lt ht (bid_ok (q := mw t - 1) ht hc (by omega))
    omega
  have lo : ∀ x, x < 12 → x ≠ 2 + t → m' 79 x = m 79 x := fun x hx h2 => A1 x h2 (Or.inl (by omega)) fun _ => ⟨by omega, Or.inl (by omega)⟩
  have C2 : ∀ t', t' < 7 → V 20 t' ≤ cap t' := gp.1
  refine ⟨⟨?_, ?_, ?_, ?_⟩, fun t' ht' => ?_, ?_, fun t' ht' i hi q hq => ?_, fun k hk => ?_, ?_, fun r hr i hi => ?_, fun r hr i hi1 hi2 => ?_⟩
  · rw [lo 0 (by omega) (by omega), C 9 (by omega)]; exact h1
  · rw [lo 1 (by omega) (by omega), C 10 (by omega)]; exact h2
  · rw [lo 10 (by omega) (by omega), C 7 (by omega)]; exact h3
  · rw [lo 11 (by omega) (by omega), C 8 (by omega)]; exact h4
  · by_cases e : t' = t
    · subst e; rw [ad_c]; exact A2
    · rw [C t' e, lo (2 + t') (by omega) (by omega)]; exact h5 t' ht'
  · rw [lo 9 (by omega) (by omega), C 11 (by omega)]; exact h6
  · by_cases e : t' = t
    · subst e
      rw [ad_c] at hi
      by_cases y : i = V 20 t'
      · rw [y]; exact A3 q hq
      · have b := bid_lt ht (bid_ok (q := q) ht (show i < cap t' by omega) hq)
        have : (i + 1) * mw t' ≤ V 20 t' * mw t' := Nat.mul_le_mul_right _ (by omega)
        rw [Nat.add_mul, Nat.one_mul, Nat.mul_comm i, Nat.mul_comm (V 20 t')] at this
        rw [A1 _ (by omega) (Or.inl (by omega)) (fun _ => ⟨by omega, Or.inl (by omega)⟩), mcol_lt y]
        exact h7 t' ht i (by omega) q hq
    · rw [C t' e] at hi
      have hic : i < cap t' := Nat.lt_of_lt_of_le hi (C2 t' ht')
      have b0 := bid_ok ht' hic hq
      have b := bid_lt ht' b0
      rw [mcol_ot hg ht ht' (Ne.symm e), A1 _ (by omega) ?_ (fun _ => ⟨by omega, Or.inl (by omega)⟩)]
      · exact h7 t' ht' i hi q hq
      · rcases Nat.lt_or_ge (mb t' + mw t' * i + q) (mb t + mw t * V 20 t) with a | a
        · exact Or.inl a
        · rcases Nat.lt_or_ge (mb t' + mw t' * i + q) (mb t + mw t * V 20 t + mw t) with a' | a'
          · have := bid_ok (q := mb t' + mw t' * i + q - (mb t + mw t * V 20 t)) ht hc (by omega)
            rw [show mb t + mw t * V 20 t + (mb t' + mw t' * i + q - (mb t + mw t * V 20 t)) = mb t' + mw t' * i + q by omega, b0] at this
            exact absurd this e
          · exact Or.inr a'
  · by_cases e : t = 2
    · subst e
      obtain ⟨a1, a2, a3⟩ := A5 rfl
      have cc : cap 2 = 12 := rfl
      rw [ad_c] at hk
      by_cases y : k = V 20 2
      · rw [y]; exact ⟨a1, a2⟩
      · rw [a3 k y (by omega), a3 (12 + k) (by omega) (by omega), ad_lt (by decide) y, ad_lt (by decide) y]; exact h8 k (by omega)
    · rw [C 2 (Ne.symm e)] at hk
      have o : own t 12 = false ∧ own t 11 = false := by
        have : ∀ t, t < 7 → t ≠ 2 → own t 12 = false ∧ own t 11 = false := by decide
        exact this t ht e
      rw [A4 e, ad_ot hg (by decide) o.1, ad_ot hg (by decide) o.2]; exact h8 k hk
  · by_cases e : t = 2
    · subst e
      have cc : cap 2 = 12 := rfl
      rw [(A5 rfl).2.2 24 (by omega) (by omega)]; exact h9
    · rw [A4 e]; exact h9
  · by_cases e : r = t
    · subst e
      rw [ad_c] at hi
      by_cases y : i = V 20 r
      · rw [y]; exact A6 hr
      · have g5 := gp.2.2.2.2.1 r hr i (by omega)
        have c5 : cap r = 5 - r := by
          have : ∀ r, r < 2 → cap r = 5 - r := by decide
          exact this r hr
        rw [ad_lt (by omega) y, ad_lt (by omega) y]
        obtain ⟨k1, k2⟩ := h10 r hr i (by omega)
        exact ⟨by rw [A1 _ (by omega) (Or.inr (by omega)) (fun _ => ⟨by omega, Or.inl (by omega)⟩)]; exact k1, fun k hk => by rw [A1 _ (by omega) (Or.inr (by omega)) (fun _ => ⟨by omega, by omega⟩)]; exact k2 k hk⟩
    · rw [C r e] at hi
      have g5 := gp.2.2.2.2.1 r hr i hi
      have c5 : cap r = 5 - r := by
        have : ∀ r, r < 2 → cap r = 5 - r := by decide
        exact this r hr
      have cr := C2 r (by omega)
      have o : own t (15 + r) = false ∧ own t (13 + r) = false := by
        have : ∀ t, t < 7 → ∀ r, r < 2 → r ≠ t → own t (15 + r) = false ∧ own t (13 + r) = false := by decide
        exact this t ht r hr e
      have ct : t < 2 → cap t = 5 - t := by
        have : ∀ r, r < 2 → cap r = 5 - r := by decide
        exact this t
      rw [ad_ot hg (by omega) o.1, ad_ot hg (by omega) o.2]
      obtain ⟨k1, k2⟩ := h10 r hr i hi
      exact ⟨by rw [A1 _ (by omega) (Or.inr (by omega)) (fun z => by have := ct z; exact ⟨by omega, Or.inl (by omega)⟩)]; exact k1, fun k hk => by rw [A1 _ (by omega) (Or.inr (by omega)) (fun z => by have := ct z; exact ⟨by omega, by omega⟩)]; exact k2 k hk⟩
  · have ct : t < 2 → cap t = 5 - t := by
      have : ∀ r, r < 2 → cap r = 5 - r := by decide
      exact this t
    have q1 : V 20 r ≤ i ∧ (r = t → i ≠ V 20 t) := by
      by_cases e : r = t
      · subst e; rw [ad_c] at hi1; exact ⟨by omega, fun _ => by omega⟩
      · rw [C r e] at hi1; exact ⟨hi1, fun z => absurd z e⟩
    rw [A1 _ (by omega) (Or.inr (by omega)) (fun z => by
      have := ct z
      refine ⟨?_, Or.inl (by omega)⟩
      intro y
      by_cases e : r = t
      · exact q1.2 e (by omega)
      · omega)]
    exact h11 r hr i q1.1 hi2
end
