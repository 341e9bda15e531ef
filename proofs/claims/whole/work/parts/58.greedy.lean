/-! which watches to attend: from the dearest down is as good as all sets -/
def vl (s : Nat → Nat) (p : Nat → Bool) (N : Nat) : Nat := sumN (fun k => if p k then s k else 0) N
theorem vl_succ {s : Nat → Nat} {p : Nat → Bool} {N : Nat} : vl s p (N + 1) = vl s p N + (if p N then s N else 0) := rfl
theorem vl_congr {s : Nat → Nat} {p q : Nat → Bool} {N : Nat} (h : ∀ k, k < N → p k = q k) : vl s p N = vl s q N := sumN_congr fun k hk => by rw [h k hk]
theorem cnt_congr {p q : Nat → Bool} {N : Nat} (h : ∀ k, k < N → p k = q k) : cnt p N = cnt q N := sumN_congr fun k hk => by rw [h k hk]
theorem rm_c {p : Nat → Bool} {t : Nat} (hp : p t = true) : ∀ {N : Nat}, t < N → cnt p N = cnt (fun k => p k && k != t) N + 1
  | 0, h => absurd h (Nat.not_lt_zero _)
  | N + 1, h => by
    rw [cnt_succ, cnt_succ]
    by_cases e : t = N
    · subst e
      rw [hp, cnt_congr (q := fun k => p k && k != t) fun k hk => by
        have : (k != t) = true := by simp; omega
        rw [this, Bool.and_true]]
      simp
    · rw [rm_c hp (N := N) (by omega)]
      have : (N != t) = true := by simp; omega
      simp only [this, Bool.and_true]; omega
theorem rm_v {s : Nat → Nat} {p : Nat → Bool} {t : Nat} (hp : p t = true) : ∀ {N : Nat}, t < N → vl s p N = vl s (fun k => p k && k != t) N + s t
  | 0, h => absurd h (Nat.not_lt_zero _)
  | N + 1, h => by
    rw [vl_succ, vl_succ]
    by_cases e : t = N
    · subst e
      rw [hp, vl_congr (q := fun k => p k && k != t) fun k hk => by
        have : (k != t) = true := by simp; omega
        rw [this, Bool.and_true]]
      simp
    · rw [rm_v hp (N := N) (by omega)]
      have : (N != t) = true := by simp; omega
      simp only [this, Bool.and_true]; omega
theorem cnt_sub {p q : Nat → Bool} : ∀ {N : Nat}, (∀ k, k < N → p k = true → q k = true) → cnt p N ≤ cnt q N
  | 0, _ => Nat.le_refl _
  | N + 1, h => by
    have := cnt_sub (p := p) (q := q) (N := N) fun k hk => h k (by omega)
    rw [cnt_succ, cnt_succ]
    cases e : p N with
    | false => simp; omega
    | true => rw [h N (by omega) e]; omega
theorem pigeon {p q : Nat → Bool} {N : Nat} (h : cnt q N < cnt p N) : ∃ k, k < N ∧ p k = true ∧ q k = false := by
  by_cases e : ∃ k, k < N ∧ p k = true ∧ q k = false
  · exact e
  · have := cnt_sub (p := p) (q := q) (N := N) fun k hk hp => by
      cases hq : q k with
      | true => rfl
      | false => exact absurd ⟨k, hk, hp, hq⟩ e
    omega
theorem bp_spec {s : Nat → Nat} {T : Nat} : ∀ N, (bp s T N = -1 ∧ ∀ k, k < N → T.testBit k = true) ∨ (∃ b : Nat, b < N ∧ bp s T N = b ∧ T.testBit b = false ∧ ∀ k, k < N → T.testBit k = false → s k ≤ s b)
  | 0 => Or.inl ⟨rfl, fun k h => absurd h (Nat.not_lt_zero _)⟩
  | N + 1 => by
    unfold bp
    cases e : T.testBit N with
    | true =>
      rw [if_pos rfl]
      rcases bp_spec (s := s) (T := T) N with ⟨h1, h2⟩ | ⟨b, h1, h2, h3, h4⟩
      · refine Or.inl ⟨h1, fun k hk => ?_⟩
        by_cases e2 : k = N
        · subst e2; exact e
        · exact h2 k (by omega)
      · refine Or.inr ⟨b, by omega, h2, h3, fun k hk hk2 => ?_⟩
        by_cases e2 : k = N
        · subst e2; rw [e] at hk2; cases hk2
        · exact h4 k (by omega) hk2
    | false =>
      rw [if_neg (by decide)]
      rcases bp_spec (s := s) (T := T) N with ⟨h1, h2⟩ | ⟨b, h1, h2, h3, h4⟩
      · rw [if_pos (Or.inl h1)]
        refine Or.inr ⟨N, by omega, rfl, e, fun k hk hk2 => ?_⟩
        by_cases e2 : k = N
        · subst e2; exact Nat.le_refl _
        · have := h2 k (by omega); rw [this] at hk2; cases hk2
      · rw [h2]
        by_cases e3 : s b < s N
        · rw [if_pos (Or.inr (by simpa using e3))]
          refine Or.inr ⟨N, by omega, rfl, e, fun k hk hk2 => ?_⟩
          by_cases e2 : k = N
          · subst e2; exact Nat.le_refl _
          · have := h4 k (by omega) hk2; omega
        · rw [if_neg (fun z => by
            rcases z with z | z
            · omega
            · exact e3 (by simpa using z))]
          refine Or.inr ⟨b, by omega, rfl, h3, fun k hk hk2 => ?_⟩
          by_cases e2 : k = N
          · subst e2; omega
          · exact h4 k (by omega) hk2
theorem or_bit (G b k : Nat) : (G ||| (1 <<< b)).testBit k = (G.testBit k || decide (k = b)) := by rw [Nat.testBit_or, one_bit]
theorem or_rm {G b : Nat} (h : G.testBit b = false) : (fun k => bits (G ||| (1 <<< b)) k && k != b) = bits G := by
  funext k
  unfold bits
  rw [or_bit]
  by_cases e : k = b
  · subst e; simp [h]
  · simp [e]
/-- the greedy set -/
theorem gr_set {s : Nat → Nat} {N : Nat} : ∀ i, i ≤ N → cnt (bits (gr s N i).1) N = i ∧ vl s (bits (gr s N i).1) N = (gr s N i).2
  | 0, _ => by
    have h : ∀ k, k < N → bits (gr s N 0).1 k = false := fun k _ => Nat.zero_testBit k
    refine ⟨?_, ?_⟩
    · rw [cnt_congr (q := fun _ => false) h]
      clear h
      induction N with
      | zero => rfl
      | succ N ih => rw [cnt_succ, ih (by omega)]; rfl
    · rw [vl_congr (q := fun _ => false) h]
      clear h
      induction N with
      | zero => rfl
      | succ N ih => rw [vl_succ, ih (by omega)]; rfl
  | i + 1, hi => by
    obtain ⟨h1, h2⟩ := gr_set (s := s) (N := N) i (by omega)
    rcases bp_spec (s := s) (T := (gr s N i).1) N with ⟨q1, q2⟩ | ⟨b, q1, q2, q3, q4⟩
    · have : cnt (fun _ => true) N ≤ cnt (bits (gr s N i).1) N := cnt_sub fun k hk _ => q2 k hk
      have hN : ∀ M, cnt (fun _ => true) M = M := fun M => by
        induction M with
        | zero => rfl
        | succ M ih => rw [cnt_succ, ih]; rfl
      rw [hN] at this; omega
    · have e : gr s N (i + 1) = ((gr s N i).1 ||| (1 <<< b), (gr s N i).2 + s b) := by
        rw [gr, q2, if_neg (by omega)]; rfl
      rw [e]
      have hb : bits ((gr s N i).1 ||| (1 <<< b)) b = true := by unfold bits; rw [or_bit]; simp
      refine ⟨?_, ?_⟩
      · show cnt (bits ((gr s N i).1 ||| (1 <<< b))) N = i + 1
        rw [rm_c hb q1, or_rm q3, h1]
      · show vl s (bits ((gr s N i).1 ||| (1 <<< b))) N = (gr s N i).2 + s b
        rw [rm_v hb q1, or_rm q3, h2]
theorem gr_mono {s : Nat → Nat} {N : Nat} (i : Nat) : (gr s N i).2 ≤ (gr s N (i + 1)).2 := by
  rw [gr]; split
  · exact Nat.le_refl _
  · simp only; omega
/-- no set of so many is worth more -/
theorem gr_top {s : Nat → Nat} {N : Nat} : ∀ i, i ≤ N → ∀ p : Nat → Bool, cnt p N ≤ i → vl s p N ≤ (gr s N i).2
  | 0, _, p, hp => by
    have h : ∀ k, k < N → p k = false := fun k hk => by
      cases e : p k with
      | false => rfl
      | true => have := rm_c e hk; omega
    have hz : vl s p N = 0 := by
      rw [vl_congr (q := fun _ => false) h]
      clear h hp
      induction N with
      | zero => rfl
      | succ N ih => rw [vl_succ, ih (by omega)]; rfl
    rw [hz]; exact Nat.zero_le _
  | i + 1, hi, p, hp => by
    have hm := gr_mono (s := s) (N := N) i
    by_cases e : cnt p N ≤ i
    · exact Nat.le_trans (gr_top i (by omega) p e) hm
    · obtain ⟨h1, -⟩ := gr_set (s := s) (N := N) i (by omega)
      obtain ⟨t, ht, hpt, hgt⟩ := pigeon (p := p) (q := bits (gr s N i).1) (N := N) (by omega)
      have hc := rm_c hpt ht
      have hv := rm_v (s := s) hpt ht
      have hr := gr_top (s := s) (N := N) i (by omega) (fun k => p k && k != t) (by omega)
      rcases bp_spec (s := s) (T := (gr s N i).1) N with ⟨q1, q2⟩ | ⟨b, q1, q2, q3, q4⟩
      · have := q2 t ht; unfold bits at hgt; rw [this] at hgt; cases hgt
      · have hb := q4 t ht hgt
        have e : gr s N (i + 1) = ((gr s N i).1 ||| (1 <<< b), (gr s N i).2 + s b) := by
          rw [gr, q2, if_neg (by omega)]; rfl
        rw [e]; show vl s p N ≤ (gr s N i).2 + s b
        omega
theorem most_top {s : Nat → Nat} {N q : Nat} {p : Nat → Bool} (h : cnt p N ≤ q) : vl s p N ≤ mostG s N q := by
  unfold mostG
  have := cnt_le (p := p) N
  exact gr_top _ (Nat.min_le_right _ _) p (Nat.le_min.mpr ⟨h, this⟩)
theorem most_at (s : Nat → Nat) (N q : Nat) : ∃ T, T < 2 ^ N ∧ cnt (bits T) N ≤ q ∧ vl s (bits T) N = mostG s N q := by
  obtain ⟨h1, h2⟩ := gr_set (s := s) (N := N) (min q N) (Nat.min_le_right _ _)
  exact ⟨(gr s N (min q N)).1, gr_lt _, by rw [h1]; exact Nat.min_le_left _ _, h2⟩
theorem hi_c {k x : Nat} (hx : x < 2 ^ k) : cnt (bits (2 ^ k + x)) (k + 1) = cnt (bits x) k + 1 := by
  rw [cnt_succ, cnt_congr (q := bits x) fun i hi => by unfold bits; rw [Nat.testBit_two_pow_add_gt hi]]
  rw [show bits (2 ^ k + x) k = true by unfold bits; rw [Nat.testBit_two_pow_add_eq, Nat.testBit_lt_two_pow hx]; rfl]; rfl
theorem hi_v {s : Nat → Nat} {k x : Nat} (hx : x < 2 ^ k) : vl s (bits (2 ^ k + x)) (k + 1) = vl s (bits x) k + s k := by
  rw [vl_succ, vl_congr (q := bits x) fun i hi => by unfold bits; rw [Nat.testBit_two_pow_add_gt hi]]
  rw [show bits (2 ^ k + x) k = true by unfold bits; rw [Nat.testBit_two_pow_add_eq, Nat.testBit_lt_two_pow hx]; rfl]; rfl
theorem lo_c {k x : Nat} (hx : x < 2 ^ k) : cnt (bits x) (k + 1) = cnt (bits x) k := by
  rw [cnt_succ, show bits x k = false from Nat.testBit_lt_two_pow hx]; rfl
theorem lo_v {s : Nat → Nat} {k x : Nat} (hx : x < 2 ^ k) : vl s (bits x) (k + 1) = vl s (bits x) k := by
  rw [vl_succ, show bits x k = false from Nat.testBit_lt_two_pow hx]; rfl
theorem cnt0 (N : Nat) : cnt (bits 0) N = 0 := by
  induction N with
  | zero => rfl
  | succ N ih => rw [cnt_succ, ih, show bits 0 N = false from Nat.zero_testBit N]; rfl
theorem vl0 (s : Nat → Nat) (N : Nat) : vl s (bits 0) N = 0 := by
  induction N with
  | zero => rfl
  | succ N ih => rw [vl_succ, ih, show bits 0 N = false from Nat.zero_testBit N]; rfl
/-- the least bits of those that will do -/
theorem lex_ok {s : Nat → Nat} : ∀ (k l : Nat) (need : Int), need ≤ (mostG s k l : Int) → lexS s k l need < 2 ^ k ∧ cnt (bits (lexS s k l need)) k ≤ l ∧ need ≤ (vl s (bits (lexS s k l need)) k : Int) ∧ ∀ T, T < 2 ^ k → cnt (bits T) k ≤ l → need ≤ (vl s (bits T) k : Int) → lexS s k l need ≤ T
  | 0, l, need, h => by
    have e : mostG s 0 l = 0 := by unfold mostG; rw [Nat.min_zero]; rfl
    rw [e] at h
    exact ⟨Nat.two_pow_pos _, Nat.zero_le _, h, fun T _ _ _ => Nat.zero_le _⟩
  | k + 1, l, need, h => by
    unfold lexS
    by_cases e0 : l = 0
    · rw [if_pos e0]
      subst e0
      have e : mostG s (k + 1) 0 = 0 := by unfold mostG; rw [Nat.zero_min]; rfl
      rw [e] at h
      refine ⟨Nat.two_pow_pos _, by rw [cnt0]; exact Nat.le_refl _, by rw [vl0]; exact h, fun T _ _ _ => Nat.zero_le _⟩
    rw [if_neg e0]
    have hp : 2 ^ (k + 1) = 2 ^ k + 2 ^ k := by rw [Nat.pow_succ]; omega
    by_cases e1 : need ≤ (mostG s k l : Int)
    · rw [if_pos e1]
      obtain ⟨h1, h2, h3, h4⟩ := lex_ok k l need e1
      refine ⟨by omega, by rw [lo_c h1]; exact h2, by rw [lo_v h1]; exact h3, fun T hT hc hv => ?_⟩
      by_cases e : T < 2 ^ k
      · rw [lo_c e] at hc; rw [lo_v e] at hv; exact h4 T e hc hv
      · omega
    · rw [if_neg e1]
      have low : ∀ T, T < 2 ^ k → cnt (bits T) k ≤ l → ¬ need ≤ (vl s (bits T) k : Int) := fun T _ hc hv => by
        have := most_top (s := s) hc; omega
      have sub : need - (s k : Int) ≤ (mostG s k (l - 1) : Int) := by
        obtain ⟨T, t1, t2, t3⟩ := most_at s (k + 1) l
        by_cases e : T < 2 ^ k
        · rw [lo_c e] at t2; rw [lo_v e] at t3
          exact absurd (by rw [t3]; exact h) (low T e t2)
        · have hx : T - 2 ^ k < 2 ^ k := by omega
          have eT : T = 2 ^ k + (T - 2 ^ k) := by omega
          rw [eT, hi_c hx] at t2
          rw [eT, hi_v hx] at t3
          have := most_top (s := s) (q := l - 1) (p := bits (T - 2 ^ k)) (N := k) (by omega)
          omega
      obtain ⟨h1, h2, h3, h4⟩ := lex_ok k (l - 1) (need - (s k : Int)) sub
      have eo : (1 <<< k) ||| lexS s k (l - 1) (need - (s k : Int)) = 2 ^ k + lexS s k (l - 1) (need - (s k : Int)) := by
        have := Nat.two_pow_add_eq_or_of_lt h1 1
        rw [Nat.mul_one] at this
        rw [Nat.one_shiftLeft, this]
      rw [eo]
      refine ⟨by omega, by rw [hi_c h1]; omega, by rw [hi_v h1]; omega, fun T hT hc hv => ?_⟩
      by_cases e : T < 2 ^ k
      · rw [lo_c e] at hc; rw [lo_v e] at hv; exact absurd hv (low T e hc)
      · have hx : T - 2 ^ k < 2 ^ k := by omega
        have eT : T = 2 ^ k + (T - 2 ^ k) := by omega
        rw [eT, hi_c hx] at hc
        rw [eT, hi_v hx] at hv
        have := h4 (T - 2 ^ k) hx (by omega) (by omega)
        omega
theorem lft_ok {s : Nat → Nat} {N : Nat} {need : Int} : ∀ (f l : Nat), need ≤ (mostG s N (l + f) : Int) → (∀ l', l' < l → ¬ need ≤ (mostG s N l' : Int)) → need ≤ (mostG s N (lft s N need f l) : Int) ∧ ∀ l', l' < lft s N need f l → ¬ need ≤ (mostG s N l' : Int)
  | 0, l, h, hn => ⟨h, hn⟩
  | f + 1, l, h, hn => by
    unfold lft
    by_cases e : need ≤ (mostG s N l : Int)
    · rw [if_pos e]; exact ⟨e, hn⟩
    · rw [if_neg e]
      refine lft_ok f (l + 1) (by rw [show l + 1 + f = l + (f + 1) by omega]; exact h) fun l' hl' => ?_
      rcases Nat.lt_or_eq_of_le (Nat.le_of_lt_succ hl') with h1 | h1
      · exact hn l' h1
      · subst h1; exact e
theorem bst_spec {V K : Nat → Nat → Nat} {A mi : Nat} : ∀ N, (bst V K A mi N = -2 ∧ ∀ T, T < N → T &&& A = 0 → ¬ sbs V K T ≤ mi) ∨ (∃ B : Nat, B < N ∧ bst V K A mi N = B ∧ B &&& A = 0 ∧ sbs V K B ≤ mi ∧ ∀ T, T < N → T &&& A = 0 → sbs V K T ≤ mi → onesN B < onesN T ∨ (onesN B = onesN T ∧ B ≤ T))
  | 0 => Or.inl ⟨rfl, fun T h => absurd h (Nat.not_lt_zero _)⟩
  | N + 1 => by
    unfold bst
    rcases bst_spec (V := V) (K := K) (A := A) (mi := mi) N with ⟨h1, h2⟩ | ⟨B, h1, h2, h3, h4, h5⟩
    · rw [h1]
      by_cases e : N &&& A = 0 ∧ sbs V K N ≤ mi
      · rw [if_pos ⟨⟨e.1, Or.inl (by decide)⟩, e.2⟩]
        refine Or.inr ⟨N, by omega, rfl, e.1, e.2, fun T hT ha hs => ?_⟩
        by_cases e2 : T = N
        · subst e2; exact Or.inr ⟨rfl, Nat.le_refl _⟩
        · exact absurd hs (h2 T (by omega) ha)
      · rw [if_neg (fun z => e ⟨z.1.1, z.2⟩)]
        refine Or.inl ⟨rfl, fun T hT ha hs => ?_⟩
        by_cases e2 : T = N
        · subst e2; exact e ⟨ha, hs⟩
        · exact h2 T (by omega) ha hs
    · rw [h2, Int.toNat_natCast]
      by_cases e : (N &&& A = 0 ∧ onesN N < onesN B) ∧ sbs V K N ≤ mi
      · rw [if_pos ⟨⟨e.1.1, Or.inr e.1.2⟩, e.2⟩]
        refine Or.inr ⟨N, by omega, rfl, e.1.1, e.2, fun T hT ha hs => ?_⟩
        by_cases e2 : T = N
        · subst e2; exact Or.inr ⟨rfl, Nat.le_refl _⟩
        · have := h5 T (by omega) ha hs; omega
      · rw [if_neg (fun z => by
          rcases z.1.2 with q | q
          · omega
          · exact e ⟨⟨z.1.1, q⟩, z.2⟩)]
        refine Or.inr ⟨B, by omega, rfl, h3, h4, fun T hT ha hs => ?_⟩
        by_cases e2 : T = N
        · subst e2
          by_cases q : onesN T < onesN B
          · exact absurd ⟨⟨ha, q⟩, hs⟩ e
          · omega
        · exact h5 T (by omega) ha hs
theorem stl_KA {V K : Nat → Nat → Nat} {E : Nat → Nat} {B : Nat → Bool} {k : Nat} : stl V (KA K B) E k = if B k then stl V (KA K allS) E k else stl V K E k := by
  cases e : B k with
  | true => simp [stl, lkOf, earOf, KA, allS, e]
  | false => simp [stl, lkOf, earOf, KA, e]
theorem swS_sbs {V K : Nat → Nat → Nat} {T : Nat} : swS V K (bits T) = sbs V K T := by
  unfold swS sbs
  exact sumN_congr fun k _ => by rw [stl_KA]; rfl
theorem sbs_vl {V K : Nat → Nat → Nat} (g : GV V) (T : Nat) : sbs V K T + vl (sav V K) (bits T) (V 20 2) = sumN (stl V K (V 1)) (V 20 2) := by
  unfold sbs vl
  have : ∀ N, N ≤ V 20 2 → sumN (fun k => if T.testBit k then stl V (KA K allS) (V 1) k else stl V K (V 1) k) N + sumN (fun k => if bits T k then sav V K k else 0) N = sumN (stl V K (V 1)) N := by
    intro N
    induction N with
    | zero => intro _; rfl
    | succ N ih =>
      intro hN
      have := ih (by omega)
      have ha := stl_att (K := K) g (k := N) (by omega)
      rw [sumN, sumN, sumN]
      unfold bits sav at *
      cases e : T.testBit N with
      | true => simp only [if_true]; omega
      | false => simp only [Bool.false_eq_true, if_false]; omega
  exact this _ (Nat.le_refl _)
theorem onesW {V : Nat → Nat → Nat} (g : GV V) {T : Nat} (hT : T < 2 ^ V 20 2) : onesN T = cnt (bits T) (V 20 2) := by
  have g12 := g.1.2.2.1
  unfold onesN
  have : ∀ d, cnt (bits T) (V 20 2 + d) = cnt (bits T) (V 20 2) := by
    intro d
    induction d with
    | zero => rfl
    | succ d ih =>
      rw [← Nat.add_assoc, cnt_succ, ih]
      have h8 : (2 : Nat) ^ V 20 2 ≤ 2 ^ (V 20 2 + d) := Nat.pow_le_pow_right (by omega) (by omega)
      rw [show bits T (V 20 2 + d) = false from Nat.testBit_lt_two_pow (by omega)]; rfl
  have := this (12 - V 20 2)
  rw [show V 20 2 + (12 - V 20 2) = 12 by omega] at this
  exact this
theorem few_bst {V K : Nat → Nat → Nat} (g : GV V) (gk : GK V K) {A mi : Nat} (hA : ∀ k, k < V 20 2 → A.testBit k = (K 2 k == 1)) : fewS V K mi = bst V K A mi (2 ^ V 20 2) := by
  have hiff : ∀ T, sbs V K T ≤ mi ↔ (sumN (stl V K (V 1)) (V 20 2) : Int) - mi ≤ (vl (sav V K) (bits T) (V 20 2) : Int) := fun T => by
    have := sbs_vl (K := K) g T; omega
  unfold fewS
  generalize hneed : (sumN (stl V K (V 1)) (V 20 2) : Int) - mi = need at hiff
  have hsp := bst_spec (V := V) (K := K) (A := A) (mi := mi) (2 ^ V 20 2)
  by_cases e : need ≤ (mostG (sav V K) (V 20 2) (V 20 2) : Int)
  · rw [if_pos e]
    obtain ⟨l1, l2⟩ := lft_ok (s := sav V K) (N := V 20 2) (need := need) (V 20 2) 0 (by rw [Nat.zero_add]; exact e) (fun l' h => absurd h (Nat.not_lt_zero _))
    generalize lft (sav V K) (V 20 2) need (V 20 2) 0 = l at l1 l2
    obtain ⟨x1, x2, x3, x4⟩ := lex_ok (s := sav V K) (V 20 2) l need l1
    generalize lexS (sav V K) (V 20 2) l need = T1 at x1 x2 x3 x4
    have least : ∀ T, need ≤ (vl (sav V K) (bits T) (V 20 2) : Int) → l ≤ cnt (bits T) (V 20 2) := fun T hT => by
      have := most_top (s := sav V K) (q := cnt (bits T) (V 20 2)) (p := bits T) (N := V 20 2) (Nat.le_refl _)
      by_cases q : l ≤ cnt (bits T) (V 20 2)
      · exact q
      · exact absurd (by omega) (l2 (cnt (bits T) (V 20 2)) (by omega))
    have hc1 : cnt (bits T1) (V 20 2) = l := by have := least T1 x3; omega
    have hd : T1 &&& A = 0 := by
      apply Nat.eq_of_testBit_eq
      intro i
      rw [Nat.testBit_and, Nat.zero_testBit]
      by_cases hi : i < V 20 2
      · cases t : T1.testBit i with
        | false => rfl
        | true =>
          rw [hA i hi, Bool.true_and]
          cases q : (K 2 i == 1) with
          | false => rfl
          | true =>
            have k2 : K 2 i = 1 := by simpa using q
            have s0 : sav V K i = 0 := by
              unfold sav
              have : stl V (KA K allS) (V 1) i = stl V K (V 1) i := by simp [stl, lkOf, earOf, KA, allS, k2]
              omega
            have r1 := rm_c (p := bits T1) (show bits T1 i = true from t) hi
            have r2 := rm_v (s := sav V K) (p := bits T1) (show bits T1 i = true from t) hi
            rw [s0] at r2
            have r3 := most_top (s := sav V K) (q := l - 1) (p := fun k => bits T1 k && k != i) (N := V 20 2) (by omega)
            exact absurd (by omega) (l2 (l - 1) (by omega))
      · have h8 : (2 : Nat) ^ V 20 2 ≤ 2 ^ i := Nat.pow_le_pow_right (by omega) (by omega)
        rw [Nat.testBit_lt_two_pow (Nat.lt_of_lt_of_le x1 h8)]; rfl
    rcases hsp with ⟨h1, h2⟩ | ⟨B, h1, h2, h3, h4, h5⟩
    · exact absurd ((hiff T1).mpr x3) (h2 T1 x1 hd)
    · rw [h2]
      have q := h5 T1 x1 hd ((hiff T1).mpr x3)
      rw [onesW g h1, onesW g x1, hc1] at q
      have hB := (hiff B).mp h4
      have lB := least B hB
      have := x4 B h1 (by omega) hB
      omega
  · rw [if_neg e]
    rcases hsp with ⟨h1, h2⟩ | ⟨B, h1, h2, h3, h4, h5⟩
    · rw [h1]
    · have hB := (hiff B).mp h4
      have := most_top (s := sav V K) (q := V 20 2) (p := bits B) (N := V 20 2) (cnt_le _)
      omega
theorem sw_one {V K : Nat → Nat → Nat} (g : GV V) {k : Nat} (hk : k < V 20 2) : swS V K (bits (1 <<< k)) + sav V K k = sumN (stl V K (V 1)) (V 20 2) := by
  rw [swS_sbs, ← sbs_vl (K := K) g (1 <<< k)]
  congr 1
  have hb : bits (1 <<< k) k = true := by unfold bits; rw [one_bit]; simp
  rw [rm_v hb hk]
  have : (fun i => bits (1 <<< k) i && i != k) = bits 0 := by
    funext i; unfold bits; rw [one_bit, Nat.zero_testBit]
    by_cases e : i = k <;> simp [e]
  rw [this, vl0, Nat.zero_add]
