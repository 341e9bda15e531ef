/-! words and names -/
def sCh (k i : Nat) : Nat := (strT.getD (k % 22) []).getD i 0
def isW (T : Nat → Nat) (s k p : Nat) : Bool := decide (srt T s p = 1 ∧ nxq T s p - stp T s p = strL k ∧ ∀ i, i < strL k → T (stp T s p + i) = sCh k i)
theorem sCh_ok0 : ∀ k, k < 22 → strL k ≤ 8 ∧ ∀ i, i < strL k → 97 ≤ sCh k i ∧ sCh k i ≤ 122 := by decide
theorem strL_22 (k : Nat) : strL (k + 22) = strL k := by unfold strL; rw [Nat.add_mod_right]
theorem sCh_22 (k i : Nat) : sCh (k + 22) i = sCh k i := by unfold sCh; rw [Nat.add_mod_right]
theorem sCh_ok (k : Nat) (hk : k < 44) : strL k ≤ 8 ∧ ∀ i, i < strL k → 97 ≤ sCh k i ∧ sCh k i ≤ 122 := by
  by_cases h : k < 22
  · exact sCh_ok0 k h
  · obtain ⟨h1, h2⟩ := sCh_ok0 (k - 22) (by omega)
    have e : k = (k - 22) + 22 := by omega
    rw [e, strL_22]
    exact ⟨h1, fun i hi => by rw [sCh_22]; exact h2 i hi⟩
theorem strB_s (k i : Nat) : strB k i = nI (sCh k i) := rfl
theorem s_len {k : Nat} (hk : k < 44) : sLen k = some (nI (strL k)) := by unfold sLen; rw [if_pos hk]
theorem s_at {k i : Nat} (hk : k < 44) (hi : i < strL k) : sAt k (nI i) = some (nI (sCh k i)) := by
  have := (sCh_ok k hk).1
  unfold sAt
  rw [N_tn (by omega), if_pos ⟨hk, fun z => z.elim (fun q => by rw [N_lt0 (by omega)] at q; exact q) (fun q => by omega)⟩, strB_s]
/-- the first for which it holds -/
def fdx (B : Nat → Bool) (N : Nat) : Nat := skw (fun i => decide (i < N) && !B i) N 0
theorem fdx_ok (B : Nat → Bool) (N : Nat) : fdx B N ≤ N ∧ (∀ i, i < fdx B N → B i = false) ∧ (fdx B N < N → B (fdx B N) = true) := by
  obtain ⟨h1, h2, h3, h4⟩ := skw_ok (P := fun i => decide (i < N) && !B i) (s := N) (fun i h => by simp at h; exact h.1) N 0 (by omega)
  refine ⟨h4 (by omega), fun i hi => ?_, fun h => ?_⟩
  · have := h2 i (by omega) hi
    simp at this; exact this.2
  · unfold fdx at h ⊢
    cases e : B (skw (fun i => decide (i < N) && !B i) N 0) with
    | true => rfl
    | false => simp [e] at h3; omega
def nmB (T : Nat → Nat) (s : Nat) (V : Nat → Nat → Nat) (r p i : Nat) : Bool := decide (nxq T s p - stp T s p = V (15 + r) i ∧ ∀ k, k < V (15 + r) i → T (stp T s p + k) = T (V (13 + r) i + k))
def bgs (T : Nat → Nat) (s p : Nat) : Bool := isW T s 0 p || isW T s 4 p || isW T s 5 p || isW T s 6 p || isW T s 7 p || isW T s 8 p || isW T s 9 p || isW T s 10 p
/-- names told so far are words -/
def GN (T : Nat → Nat) (V : Nat → Nat → Nat) : Prop := ∀ r, r < 2 → ∀ i, i < V 20 r → 1 ≤ V (15 + r) i ∧ V (15 + r) i ≤ 8 ∧ ∀ k, k < V (15 + r) i → 97 ≤ T (V (13 + r) i + k) ∧ T (V (13 + r) i + k) ≤ 122
section
variable {c : Nat → Nat → Int32} {j : Nat → Nat → Int64} {w : Nat → Nat} {m : Nat → Nat → Int32} {n : Nat → Nat → Int64} {T : Nat → Nat} {s p : Nat} {V : Nat → Nat → Nat}
theorem let_ok (hp : p ≤ s) (h : srt T s p = 1) : 1 ≤ nxq T s p - stp T s p ∧ nxq T s p - stp T s p ≤ 8 ∧ ∀ i, i < nxq T s p - stp T s p → 97 ≤ T (stp T s p + i) ∧ T (stp T s p + i) ≤ 122 := by
  obtain ⟨h1, h2⟩ := srt_1 h
  obtain ⟨n1, n2, n3, n4, n5, n6, n7⟩ := nxq_ok (T := T) hp
  have := n6 (by omega)
  refine ⟨by omega, h2, fun i hi => ?_⟩
  have := n5 (Or.inl h1) (stp T s p + i) (by omega) (by omega)
  rw [h1] at this
  exact (so_1 _).mp this
theorem c_is (hp : p ≤ s) (e6 : c 32 6 = nI (srt T s p)) (e8 : j 32 8 = wv T (stp T s p) (nxq T s p - stp T s p)) {k : Nat} (hk : k < 44) : X5_is 32 k (enc c j w m n) = some (if isW T s k p then 1 else 0, enc c j w m n) := by
  obtain ⟨k1, k2⟩ := sCh_ok k hk
  have h4 := srt_le (T := T) hp
  refine loop_up (z := fun _ _ _ _ _ => none) (s := X5_is_L5_s) (strL k) (fun i f => f 32 k (wv (sCh k) 0 i) (nI i) (enc c j w m n) = some (if isW T s k p then 1 else 0, enc c j w m n)) ?_ ?_ 5000 0 (Nat.zero_le _) (by omega)
  · intro i f hi ih
    unfold X5_is_L5_s
    rw [s_len hk, ob_some, if_neg (by rw [N_le (by omega) (by omega)]; omega), s_at hk hi, ob_some, pin_eq, show nI i + 1 = nI (i + 1) from N_add i 1]
    have : wv (sCh k) 0 (i + 1) = (wv (sCh k) 0 i <<< (Int32.toInt64 8 &&& 63)) ||| Int32.toInt64 (nI (sCh k i)) := by rw [wv, Nat.zero_add]
    rw [← this]; exact ih
  · intro f
    unfold X5_is_L5_s
    rw [s_len hk, ob_some, if_pos (by rw [N_le (by omega) (by omega)]; omega), F32_6, ob_some, e6]
    by_cases q : srt T s p = 1
    · obtain ⟨l1, l2, l3⟩ := let_ok hp q
      have E := wv_eq (T := T) (T' := sCh k) (q := stp T s p) (q' := 0) l2 k1 (fun i hi => by have := l3 i hi; omega) (fun i hi => by have := k2 i hi; rw [Nat.zero_add]; omega)
      rw [if_pos (by rw [q]; rfl), F32_j8, ob_some, e8]
      by_cases z : isW T s k p = true
      · obtain ⟨z1, z2, z3⟩ := of_decide_eq_true z
        rw [if_pos ((lgc_eq _ _).mpr (E.mpr ⟨z2, fun i hi => by rw [Nat.zero_add]; exact z3 i (by omega)⟩)), z, rZ_1]; rfl
      · rw [if_neg (fun y => z (decide_eq_true ?_)), show isW T s k p = false by simpa using z, rZ_0]; rfl
        obtain ⟨y1, y2⟩ := E.mp ((lgc_eq _ _).mp y)
        exact ⟨q, y1, fun i hi => by have := y2 i (by omega); rw [Nat.zero_add] at this; exact this⟩
    · rw [if_neg (by rw [show (1 : Int32) = nI 1 from rfl, N_inj (by omega) (by omega)]; exact q), show isW T s k p = false from decide_eq_false fun z => q z.1, rZ_0]; rfl
theorem c_begins (hp : p ≤ s) (e6 : c 32 6 = nI (srt T s p)) (e8 : j 32 8 = wv T (stp T s p) (nxq T s p - stp T s p)) : X5_beginsLine 32 (enc c j w m n) = some (if bgs T s p then 1 else 0, enc c j w m n) := by
  have I : ∀ k, k < 44 → X5_is 32 k (enc c j w m n) = some (if isW T s k p then 1 else 0, enc c j w m n) := fun k hk => c_is hp e6 e8 hk
  have R : ∀ b : Bool, ∀ X Y : Option (Int32 × Hp), (if (if b then (1 : Int32) else 0) = 0 then X else Y) = if b then Y else X := by intro b X Y; cases b <;> simp
  unfold X5_beginsLine X5_beginsLine_B72 bgs
  rw [cV32, I 0 (by decide), bd_eq, R, cV32, I 4 (by decide), bd_eq, R, cV32, I 5 (by decide), bd_eq, R, cV32, I 6 (by decide), bd_eq, R, cV32, I 7 (by decide), bd_eq, R, cV32, I 8 (by decide), bd_eq, R, cV32, I 9 (by decide), bd_eq, R, cV32, I 10 (by decide), bd_eq, R, rZ_0, rZ_1]
  cases isW T s 0 p <;> cases isW T s 4 p <;> cases isW T s 5 p <;> cases isW T s 6 p <;> cases isW T s 7 p <;> cases isW T s 8 p <;> cases isW T s 9 p <;> cases isW T s 10 p <;> rfl
theorem c_numOf {a len N : Nat} (ha : sk a = .inl (2, len)) (h1 : a < 75) (hN : N ≤ len) (hl : len < 100) {B : Nat → Bool} (hB : ∀ i, i < N → ((lg_cmp (j a i) (j 32 8) = 0) ↔ B i = true)) : X5_numberOf 32 a (nI N) (enc c j w m n) = some (if fdx B N < N then nI (fdx B N) else -1, enc c j w m n) := by
  obtain ⟨f1, f2, f3⟩ := fdx_ok B N
  refine loop_up (z := fun _ _ _ _ _ => none) (s := X5_numberOf_L2_s) (fdx B N) (fun i f => f 32 a (nI N) (nI i) (enc c j w m n) = some (if fdx B N < N then nI (fdx B N) else -1, enc c j w m n)) ?_ ?_ 5000 0 (Nat.zero_le _) (by omega)
  · intro i f hi ih
    unfold X5_numberOf_L2_s
    rw [if_neg (by rw [N_le (by omega) (by omega)]; omega), aN_J ha, ob_some, if_neg (by rw [N_le (by omega) (by omega)]; omega), aJ_c ha h1, N_tn (by omega), if_neg (fun z => z.elim (fun q => by rw [N_lt0 (by omega)] at q; exact q) (fun q => by omega)), ob_some, F32_j8, ob_some, if_neg (fun z => by have := (hB i (by omega)).mp z; rw [f2 i hi] at this; cases this), show nI i + 1 = nI (i + 1) from N_add i 1]
    exact ih
  · intro f
    unfold X5_numberOf_L2_s
    by_cases q : fdx B N < N
    · rw [if_neg (by rw [N_le (by omega) (by omega)]; omega), aN_J ha, ob_some, if_neg (by rw [N_le (by omega) (by omega)]; omega), aJ_c ha h1, N_tn (by omega), if_neg (fun z => z.elim (fun q => by rw [N_lt0 (by omega)] at q; exact q) (fun q => by omega)), ob_some, F32_j8, ob_some, if_pos ((hB _ q).mpr (f3 q)), if_pos q]
    · rw [if_pos (by rw [N_le (by omega) (by omega)]; omega), if_neg q]
/-- the class's packed names -/
def CNm (j : Nat → Nat → Int64) (T : Nat → Nat) (V : Nat → Nat → Nat) : Prop := ∀ r, r < 2 → ∀ i, i < V 20 r → j (33 + r) i = wv T (V (13 + r) i) (V (15 + r) i)
theorem c_num (hp : p ≤ s) (g : GN T V) (hc : V 20 0 ≤ 5 ∧ V 20 1 ≤ 4) (hn : CNm j T V) (q : srt T s p = 1) (e8 : j 32 8 = wv T (stp T s p) (nxq T s p - stp T s p)) {r : Nat} (hr : r < 2) : X5_numberOf 32 (33 + r) (nI (V 20 r)) (enc c j w m n) = some (if fdx (nmB T s V r p) (V 20 r) < V 20 r then nI (fdx (nmB T s V r p) (V 20 r)) else -1, enc c j w m n) := by
  obtain ⟨l1, l2, l3⟩ := let_ok hp q
  have hB : ∀ i, i < V 20 r → ((lg_cmp (j (33 + r) i) (j 32 8) = 0) ↔ nmB T s V r p i = true) := by
    intro i hi
    obtain ⟨g1, g2, g3⟩ := g r hr i hi
    rw [hn r hr i hi, e8, lgc_eq, wv_eq g2 l2 (fun k hk => by have := g3 k hk; omega) (fun k hk => by have := l3 k hk; omega)]
    unfold nmB
    rw [decide_eq_true_iff]
    constructor
    · rintro ⟨z1, z2⟩; exact ⟨z1.symm, fun k hk => (z2 k hk).symm⟩
    · rintro ⟨z1, z2⟩; exact ⟨z1.symm, fun k hk => (z2 k hk).symm⟩
  match r, hr with
  | 0, _ => exact c_numOf (len := 5) rfl (by decide) (by omega) (by decide) hB
  | 1, _ => exact c_numOf (len := 4) rfl (by decide) (by omega) (by decide) hB
theorem tk_w (hp : p ≤ s) : (nI (tkc (srt T s p)) = 2) ↔ srt T s p = 1 := by
  have := srt_le (T := T) hp
  unfold tkc
  rcases Nat.lt_or_ge (srt T s p) 1 with h | h
  · rw [show srt T s p = 0 by omega]; decide
  · rcases Nat.lt_or_ge (srt T s p) 2 with h | h
    · rw [show srt T s p = 1 by omega]; decide
    · rcases Nat.lt_or_ge (srt T s p) 3 with h | h
      · rw [show srt T s p = 2 by omega]; decide
      · rcases Nat.lt_or_ge (srt T s p) 4 with h | h
        · rw [show srt T s p = 3 by omega]; decide
        · rw [show srt T s p = 4 by omega]; decide
theorem m_isW (hT : ∀ i, T i < 256) (hp : p ≤ s) (h : TKM m T s p) (h13 : m 75 13 = 0) {k : Nat} (hk : k < 44) : X11_isWord 75 k (enc c j w m n) = some (if isW T s k p then 1 else 0, enc c j w m n) := by
  obtain ⟨k1, k2⟩ := sCh_ok k hk
  unfold X11_isWord
  rw [I75_13, ob_some, h13, if_pos rfl, I75_6, ob_some, h.2.2.1]
  by_cases q : srt T s p = 1
  · obtain ⟨l1, l2, l3⟩ := let_ok hp q
    obtain ⟨d8, dl⟩ := h.2.2.2.2 q
    rw [if_pos ((tk_w hp).mpr q), I75_8, ob_some, s_len hk, ob_some, d8]
    by_cases q2 : nxq T s p - stp T s p = strL k
    · rw [if_pos (by rw [q2])]
      have E : ∀ b : Bool, (b = true ↔ ∀ i', i' < strL k → T (stp T s p + i') = sCh k i') → (if b then (1 : Int32) else 0) = if isW T s k p then 1 else 0 := by
        intro b hb
        have : b = isW T s k p := by
          unfold isW
          cases b with
          | true => symm; exact decide_eq_true ⟨q, q2, hb.mp rfl⟩
          | false => symm; exact decide_eq_false fun z => by have := hb.mpr z.2.2; cases this
        rw [this]
      refine loop_up (z := fun _ _ _ _ _ => none) (s := X11_isWord_L32_s) (strL k) (fun i f => ∀ b : Bool, (b = true ↔ ∀ i', i' < i → T (stp T s p + i') = sCh k i') → f 75 k (if b then 1 else 0) (nI i) (enc c j w m n) = some (if isW T s k p then 1 else 0, enc c j w m n)) ?_ ?_ 5000 0 (Nat.zero_le _) (by omega) true ⟨fun _ i h => absurd h (Nat.not_lt_zero _), fun _ => rfl⟩
      · intro i f hi ih b hb
        unfold X11_isWord_L32_s X11_isWord_B62 X11_isWord_B63
        rw [I75_8, ob_some, d8, q2, if_neg (by rw [N_le (by omega) (by omega)]; omega), show nI i + 1 = nI (i + 1) from N_add i 1]
        cases b with
        | false =>
          rw [if_pos (by decide)]
          refine ih false ⟨fun z => (by cases z), fun z => ?_⟩
          exact hb.mpr fun i' hi' => z i' (by omega)
        | true =>
          rw [if_neg (by decide), R75_12, ob_some, M77 (by omega), ob_some, s_at hk hi, ob_some, dl i (by omega)]
          have hb1 := hT (stp T s p + i)
          have hb2 := k2 i hi
          by_cases z : T (stp T s p + i) = sCh k i
          · rw [if_pos (by rw [z])]
            refine ih true ⟨fun _ i' hi' => ?_, fun _ => rfl⟩
            by_cases y : i' = i
            · rw [y]; exact z
            · exact hb.mp rfl i' (by omega)
          · rw [if_neg (by rw [N_inj (by omega) (by omega)]; exact z)]
            exact ih false ⟨fun z' => (by cases z'), fun y => absurd (y i (by omega)) z⟩
      · intro f b hb
        unfold X11_isWord_L32_s
        rw [I75_8, ob_some, d8, q2, if_pos (by rw [N_le (by omega) (by omega)]; omega), E b hb]
        cases isW T s k p
        · exact rZ_0 _
        · exact rZ_1 _
    · rw [if_neg (by rw [N_inj (by omega) (by omega)]; exact q2), show isW T s k p = false from decide_eq_false fun z => q2 z.2.1, rZ_0]; rfl
  · rw [if_neg (fun z => q ((tk_w hp).mp z)), show isW T s k p = false from decide_eq_false fun z => q z.1, rZ_0]; rfl
end
