/-! the tape's tokens -/
def skw (P : Nat → Bool) : Nat → Nat → Nat
  | 0, p => p
  | f + 1, p => if P p then skw P f (p + 1) else p
theorem skw_ok {P : Nat → Bool} {s : Nat} (hP : ∀ i, P i = true → i < s) : ∀ f p, s ≤ p + f → p ≤ skw P f p ∧ (∀ i, p ≤ i → i < skw P f p → P i = true) ∧ P (skw P f p) = false ∧ (p ≤ s → skw P f p ≤ s)
  | 0, p, h => by
    refine ⟨Nat.le_refl _, fun i h1 h2 => by simp only [skw] at h2; omega, ?_, fun h => h⟩
    simp only [skw]
    cases e : P p with
    | false => rfl
    | true => have := hP p e; omega
  | f + 1, p, h => by
    cases e : P p with
    | false =>
      have z : skw P (f + 1) p = p := by simp [skw, e]
      rw [z]
      exact ⟨Nat.le_refl _, fun i h1 h2 => by omega, e, fun h => h⟩
    | true =>
      have z : skw P (f + 1) p = skw P f (p + 1) := by simp [skw, e]
      rw [z]
      obtain ⟨h1, h2, h3, h4⟩ := skw_ok hP f (p + 1) (by omega)
      have := hP p e
      refine ⟨by omega, fun i a b => ?_, h3, fun _ => h4 (by omega)⟩
      by_cases q : i = p
      · rw [q]; exact e
      · exact h2 i (by omega) b
def so (b : Nat) : Nat := if 97 ≤ b ∧ b ≤ 122 then 1 else if 48 ≤ b ∧ b ≤ 57 then 2 else if b = 59 then 3 else 4
theorem so_r (b : Nat) : 1 ≤ so b ∧ so b ≤ 4 := by unfold so; repeat' split
                                                   all_goals omega
def P32 (T : Nat → Nat) (s i : Nat) : Bool := decide (i < s ∧ T i = 32)
def PK (T : Nat → Nat) (s k i : Nat) : Bool := decide (i < s ∧ so (T i) = k)
def stp (T : Nat → Nat) (s p : Nat) : Nat := skw (P32 T s) s p
def so1 (T : Nat → Nat) (s p : Nat) : Nat := if stp T s p < s then so (T (stp T s p)) else 0
def nxq (T : Nat → Nat) (s p : Nat) : Nat := if so1 T s p = 0 then stp T s p else if so1 T s p = 1 ∨ so1 T s p = 2 then skw (PK T s (so1 T s p)) s (stp T s p) else stp T s p + 1
def srt (T : Nat → Nat) (s p : Nat) : Nat := if so1 T s p = 1 then (if nxq T s p - stp T s p ≤ 8 then 1 else 4) else if so1 T s p = 2 then (if nxq T s p - stp T s p ≤ 3 then 2 else 4) else so1 T s p
section
variable {T : Nat → Nat} {s p : Nat}
theorem stp_ok (hp : p ≤ s) : p ≤ stp T s p ∧ stp T s p ≤ s ∧ (∀ i, p ≤ i → i < stp T s p → i < s ∧ T i = 32) ∧ ¬ (stp T s p < s ∧ T (stp T s p) = 32) := by
  obtain ⟨h1, h2, h3, h4⟩ := skw_ok (P := P32 T s) (s := s) (fun i h => (of_decide_eq_true h).1) s p (by omega)
  exact ⟨h1, h4 hp, fun i a b => of_decide_eq_true (h2 i a b), of_decide_eq_false h3⟩
def flg (k : Nat) : Nat := if k = 1 ∨ k = 2 then 1 else 0
theorem nxq_ok (hp : p ≤ s) : stp T s p ≤ nxq T s p ∧ nxq T s p ≤ s ∧ (∀ i, stp T s p ≤ i → i < nxq T s p → i < s ∧ (i = stp T s p ∨ (flg (so1 T s p) = 1 ∧ so (T i) = so1 T s p))) ∧ (s ≤ nxq T s p ∨ (nxq T s p ≠ stp T s p ∧ (flg (so1 T s p) = 0 ∨ so (T (nxq T s p)) ≠ so1 T s p))) ∧ (so1 T s p = 1 ∨ so1 T s p = 2 → ∀ i, stp T s p ≤ i → i < nxq T s p → so (T i) = so1 T s p) ∧ (so1 T s p ≠ 0 → stp T s p < nxq T s p) ∧ so1 T s p ≤ 4 := by
  obtain ⟨a1, a2, a3, a4⟩ := stp_ok (T := T) hp
  by_cases e0 : so1 T s p = 0
  · have z : nxq T s p = stp T s p := by unfold nxq; rw [if_pos e0]
    have : s ≤ stp T s p := by
      unfold so1 at e0
      split at e0
      · have := so_r (T (stp T s p)); omega
      · omega
    rw [z]
    exact ⟨Nat.le_refl _, a2, fun i h1 h2 => by omega, Or.inl this, fun h => by omega, fun h => absurd e0 h, by omega⟩
  · have hs : stp T s p < s := by
      unfold so1 at e0
      split at e0
      · assumption
      · exact absurd rfl e0
    have hk : so1 T s p = so (T (stp T s p)) := by unfold so1; rw [if_pos hs]
    by_cases e1 : so1 T s p = 1 ∨ so1 T s p = 2
    · have z : nxq T s p = skw (PK T s (so1 T s p)) s (stp T s p) := by unfold nxq; rw [if_neg e0, if_pos e1]
      obtain ⟨h1, h2, h3, h4⟩ := skw_ok (P := PK T s (so1 T s p)) (s := s) (fun i h => (of_decide_eq_true h).1) s (stp T s p) (by omega)
      rw [← z] at h1 h2 h3 h4
      have h3' := of_decide_eq_false h3
      have fl : flg (so1 T s p) = 1 := by unfold flg; rw [if_pos e1]
      have lt : stp T s p < nxq T s p := by
        rcases Nat.lt_or_ge (stp T s p) (nxq T s p) with q | q
        · exact q
        · have : nxq T s p = stp T s p := by omega
          rw [this] at h3'
          exact absurd ⟨hs, hk.symm⟩ h3'
      refine ⟨h1, h4 a2, fun i b1 b2 => ⟨(of_decide_eq_true (h2 i b1 b2)).1, Or.inr ⟨fl, (of_decide_eq_true (h2 i b1 b2)).2⟩⟩, ?_, fun _ i b1 b2 => (of_decide_eq_true (h2 i b1 b2)).2, fun _ => lt, by omega⟩
      by_cases q : s ≤ nxq T s p
      · exact Or.inl q
      · exact Or.inr ⟨by omega, Or.inr fun y => h3' ⟨by omega, y⟩⟩
    · have z : nxq T s p = stp T s p + 1 := by unfold nxq; rw [if_neg e0, if_neg e1]
      rw [z]
      refine ⟨by omega, by omega, fun i h1 h2 => ⟨by omega, Or.inl (by omega)⟩, Or.inr ⟨by omega, Or.inl (by unfold flg; rw [if_neg e1])⟩, fun h => absurd h e1, fun _ => by omega, by have := so_r (T (stp T s p)); omega⟩
theorem srt_so (h : srt T s p = 0) : so1 T s p = 0 := by
  unfold srt at h
  repeat' split at h
  all_goals omega
theorem srt_1 (h : srt T s p = 1) : so1 T s p = 1 ∧ nxq T s p - stp T s p ≤ 8 := by
  unfold srt at h
  repeat' split at h
  all_goals omega
theorem srt_2 (h : srt T s p = 2) : so1 T s p = 2 ∧ nxq T s p - stp T s p ≤ 3 := by
  unfold srt at h
  repeat' split at h
  all_goals omega
theorem srt_3 (h : srt T s p = 3) : so1 T s p = 3 := by
  unfold srt at h
  repeat' split at h
  all_goals omega
theorem srt_le (hp : p ≤ s) : srt T s p ≤ 4 := by
  have := (nxq_ok (T := T) hp).2.2.2.2.2.2
  unfold srt
  repeat' split
  all_goals omega
theorem nxq_gt (hp : p ≤ s) (h : srt T s p ≠ 0) : p < nxq T s p := by
  have h1 := stp_ok (T := T) hp
  have h2 := nxq_ok (T := T) hp
  have : so1 T s p ≠ 0 := fun e => h (by unfold srt; rw [e]; rfl)
  have := h2.2.2.2.2.2.1 this
  omega
end
/-- words packed, numbers -/
def wv (T : Nat → Nat) (q : Nat) : Nat → Int64
  | 0 => 0
  | k + 1 => (wv T q k <<< (Int32.toInt64 8 &&& 63)) ||| Int32.toInt64 (nI (T (q + k)))
def wh (T : Nat → Nat) (q : Nat) : Nat → Int32
  | 0 => 0
  | k + 1 => ((10 * wh T q k) + nI (T (q + k))) - 48
def pkN (T : Nat → Nat) (q : Nat) : Nat → Nat
  | 0 => 0
  | k + 1 => pkN T q k * 256 + T (q + k)
theorem pk_8 {T : Nat → Nat} {q : Nat} {k : Nat} (hk : k ≤ 8) (h : ∀ i, i < k → T (q + i) < 128) : pkN T q k < 9223372036854775808 := by
  cases k with
  | zero => simp [pkN]
  | succ k =>
    have e : ∀ k, k ≤ 7 → ∀ T' : Nat → Nat, (∀ i, i < k + 1 → T' (q + i) < 128) → pkN T' q (k + 1) < 128 * 256 ^ k := by
      intro k
      induction k with
      | zero => intro _ T' h; have := h 0 (by omega); simp [pkN]; exact this
      | succ k ih =>
        intro hk T' h
        have h1 := ih (by omega) T' (fun i hi => h i (by omega))
        have h2 := h (k + 1) (by omega)
        rw [pkN, Nat.pow_succ]
        omega
    have h1 := e k (by omega) T h
    have h2 : 256 ^ k ≤ 256 ^ 7 := Nat.pow_le_pow_right (by omega) (by omega)
    omega
theorem pk_inj {T T' : Nat → Nat} {q q' : Nat} : ∀ k k', (∀ i, i < k → 0 < T (q + i) ∧ T (q + i) < 256) → (∀ i, i < k' → 0 < T' (q' + i) ∧ T' (q' + i) < 256) → pkN T q k = pkN T' q' k' → k = k' ∧ ∀ i, i < k → T (q + i) = T' (q' + i)
  | 0, 0, _, _, _ => ⟨rfl, fun i h => absurd h (Nat.not_lt_zero _)⟩
  | 0, k' + 1, _, h, e => by
    have := h k' (by omega)
    simp only [pkN] at e; omega
  | k + 1, 0, h, _, e => by
    have := h k (by omega)
    simp only [pkN] at e; omega
  | k + 1, k' + 1, h, h', e => by
    have h1 := h k (by omega)
    have h2 := h' k' (by omega)
    simp only [pkN] at e
    obtain ⟨r1, r2⟩ := pk_inj k k' (fun i hi => h i (by omega)) (fun i hi => h' i (by omega)) (by omega)
    refine ⟨by omega, fun i hi => ?_⟩
    by_cases z : i = k
    · subst z; subst r1; omega
    · exact r2 i (by omega)
theorem pk_ext {T T' : Nat → Nat} {q q' : Nat} : ∀ k, (∀ i, i < k → T (q + i) = T' (q' + i)) → pkN T q k = pkN T' q' k
  | 0, _ => rfl
  | k + 1, h => by rw [pkN, pkN, pk_ext k fun i hi => h i (by omega), h k (by omega)]
theorem sh8 : ((Int32.toInt64 8 &&& 63).toBitVec.smod 64) = BitVec.ofNat 64 8 := by decide
theorem NJ_or {a b : Nat} : nJ a ||| nJ b = nJ (a ||| b) := by
  apply Int64.toBitVec_inj.mp; unfold nJ; simp [BitVec.ofNat_or]
theorem NJ_sh8 {a : Nat} : nJ a <<< (Int32.toInt64 8 &&& 63) = nJ (a <<< 8) := by
  apply Int64.toBitVec_inj.mp
  rw [Int64.toBitVec_shiftLeft, sh8, BitVec.shiftLeft_eq', BitVec.toNat_ofNat, Nat.mod_eq_of_lt (by omega)]
  unfold nJ
  rw [Int64.toBitVec_ofNat', Int64.toBitVec_ofNat']
  apply BitVec.eq_of_toNat_eq
  simp [Nat.shiftLeft_eq]
theorem wv_pk {T : Nat → Nat} {q : Nat} : ∀ k, (∀ i, i < k → T (q + i) < 256) → wv T q k = nJ (pkN T q k)
  | 0, _ => rfl
  | k + 1, h => by
    have h2 := h k (by omega)
    rw [wv, wv_pk k fun i hi => h i (by omega), toJ_N (by omega), NJ_sh8, NJ_or, ← Nat.shiftLeft_add_eq_or_of_lt (show T (q + k) < 2 ^ 8 from h2), pkN, Nat.shiftLeft_eq]
theorem lgc_eq (a b : Int64) : lg_cmp a b = 0 ↔ a = b := by
  unfold lg_cmp
  by_cases e : a = b
  · subst e
    rw [if_neg (fun h => Int64.lt_irrefl h), if_pos rfl]; simp
  · by_cases g : a > b
    · rw [if_pos g]; simp [e]
    · rw [if_neg g, if_neg e]; simp [e]
theorem wv_eq {T T' : Nat → Nat} {q q' k k' : Nat} (hk : k ≤ 8) (hk' : k' ≤ 8) (h : ∀ i, i < k → 0 < T (q + i) ∧ T (q + i) < 128) (h' : ∀ i, i < k' → 0 < T' (q' + i) ∧ T' (q' + i) < 128) : wv T q k = wv T' q' k' ↔ k = k' ∧ ∀ i, i < k → T (q + i) = T' (q' + i) := by
  rw [wv_pk k fun i hi => by have := h i hi; omega, wv_pk k' fun i hi => by have := h' i hi; omega]
  constructor
  · intro e
    exact pk_inj k k' (fun i hi => by have := h i hi; omega) (fun i hi => by have := h' i hi; omega) ((NJ_inj (pk_8 hk fun i hi => (h i hi).2) (pk_8 hk' fun i hi => (h' i hi).2)).mp e)
  · rintro ⟨rfl, e⟩
    rw [pk_ext k e]
