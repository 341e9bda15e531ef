/-! the reference's steps while it reads -/
def JT (m : Nat → Nat → Int32) (T : Nat → Nat) (s p : Nat) : Prop := MT m T s ∧ TKM m T s p ∧ p ≤ s ∧ m 75 13 = 0
def QB (m m' : Nat → Nat → Int32) : Prop := (∀ y, y ≠ 75 → y ≠ 77 → m' y = m y) ∧ ∀ f, f ≠ 4 → f ≠ 5 → f ≠ 6 → f ≠ 7 → f ≠ 8 → f ≠ 9 → f ≠ 10 → f ≠ 13 → m' 75 f = m 75 f
def BF (m' : Nat → Nat → Int32) (f q : Nat) : Prop := m' 75 13 = 1 ∧ m' 75 9 = nI f ∧ m' 75 10 = nI q
section
variable {c : Nat → Nat → Int32} {j : Nat → Nat → Int64} {w : Nat → Nat} {m : Nat → Nat → Int32} {n : Nat → Nat → Int64} {T : Nat → Nat} {s p : Nat} {V : Nat → Nat → Nat}
theorem QM.b {m m' : Nat → Nat → Int32} (h : QM m m') : QB m m' := ⟨h.1, fun f h1 h2 h3 h4 h5 _ _ _ => h.2 f h1 h2 h3 h4 h5⟩
theorem QB.tr {m m1 m2 : Nat → Nat → Int32} (a : QB m m1) (b : QB m1 m2) : QB m m2 := ⟨fun y h1 h2 => by rw [b.1 y h1 h2, a.1 y h1 h2], fun f h1 h2 h3 h4 h5 h6 h7 h8 => by rw [b.2 f h1 h2 h3 h4 h5 h6 h7 h8, a.2 f h1 h2 h3 h4 h5 h6 h7 h8]⟩
theorem m_wrong0 (h : m 75 13 = 0) {f q : Nat} {x : Int32} (hx : x = nI q) : ∃ m', X11_wrong 75 (nI f) x (enc c j w m n) = some (enc c j w m' n) ∧ QB m m' ∧ BF m' f q := by
  unfold X11_wrong
  rw [I75_13, ob_some, h, if_pos rfl, pZ_1, P75_13, ob_some, P75_9, ob_some, P75_10, ob_some]
  refine ⟨_, rfl, ⟨fun y h1 h2 => by rw [w75 h1, w75 h1, w75 h1], fun f h1 h2 h3 h4 h5 h6 h7 h8 => by rw [v75 h7, v75 h6, v75 h8]⟩, by rw [v75 (by decide), v75 (by decide), u75], by rw [v75 (by decide), u75], by rw [u75, hx]⟩
theorem m_wrong1 (h : m 75 13 = 1) (x y : Int32) : X11_wrong 75 x y (enc c j w m n) = some (enc c j w m n) := by
  unfold X11_wrong
  rw [I75_13, ob_some, h, if_neg (by decide)]
theorem JT.mq {m' : Nat → Nat → Int32} (h : JT m T s p) (q : QM m m') {p' : Nat} (t : TKM m' T s p') (hp : p' ≤ s) : JT m' T s p' := ⟨h.1.mq q, t, hp, by rw [q.2 13 (by omega) (by omega) (by omega) (by omega) (by omega)]; exact h.2.2.2⟩
theorem m_adv (h : JT m T s p) : ∃ m', X11_next 75 (enc c j w m n) = some (enc c j w m' n) ∧ QM m m' ∧ JT m' T s (nxq T s p) := by
  have n1 := nx_le (T := T) h.2.2.1
  obtain ⟨m', e, q, t⟩ := m_next (c := c) (j := j) (w := w) (n := n) h.1 n1.2 h.2.1.2.1
  exact ⟨m', e, q, h.mq q t n1.2⟩
theorem m_isT (h : JT m T s p) {k : Nat} (hk : k < 44) (z : isW T s k p = true) : X11_isWord 75 k (enc c j w m n) = some (1, enc c j w m n) := by rw [m_isW h.1.2.1 h.2.2.1 h.2.1 h.2.2.2 hk, z]; rfl
theorem m_isF (h : JT m T s p) {k : Nat} (hk : k < 44) (z : ¬ isW T s k p = true) : X11_isWord 75 k (enc c j w m n) = some (0, enc c j w m n) := by rw [m_isW h.1.2.1 h.2.2.1 h.2.1 h.2.2.2 hk, if_neg z]
theorem m_isB (h : m 75 13 = 1) (k : Nat) : X11_isWord 75 k (enc c j w m n) = some (0, enc c j w m n) := by
  unfold X11_isWord
  rw [I75_13, ob_some, h, if_neg (by decide), rZ_0]
theorem m_must1 (h : JT m T s p) {k : Nat} (hk : k < 44) (z : fWd T s k p = 0) : ∃ m', X11_must 75 k (enc c j w m n) = some (enc c j w m' n) ∧ QM m m' ∧ JT m' T s (nxq T s p) := by
  have hw : isW T s k p = true := by
    unfold fWd at z; split at z
    · assumption
    · cases z
  obtain ⟨m', e, q, t⟩ := m_adv (c := c) (j := j) (w := w) (n := n) h
  refine ⟨m', ?_, q, t⟩
  unfold X11_must X11_takesWord
  rw [I75_13, ob_some, h.2.2.2, if_pos rfl, cV75, cV75, m_isT h hk hw, bd_eq, if_neg (by decide), cVv75, e, ob_some, rZ_1, bd_eq, if_neg (by decide)]
theorem m_must0 (h : JT m T s p) {k : Nat} (hk : k < 44) (z : fWd T s k p ≠ 0) : ∃ m', X11_must 75 k (enc c j w m n) = some (enc c j w m' n) ∧ QB m m' ∧ BF m' (fWd T s k p) (stp T s p) := by
  have hw : ¬ isW T s k p = true := fun y => z (by unfold fWd; rw [if_pos y])
  have hf : fWd T s k p = 1 := by unfold fWd; rw [if_neg hw]
  obtain ⟨m', e, q, b⟩ := m_wrong0 (c := c) (j := j) (w := w) (n := n) h.2.2.2 (f := 1) h.2.1.1
  refine ⟨m', ?_, q, by rw [hf]; exact b⟩
  unfold X11_must X11_takesWord
  rw [I75_13, ob_some, h.2.2.2, if_pos rfl, cV75, cV75, m_isF h hk hw, bd_eq, if_pos rfl, rZ_0, bd_eq, if_pos rfl, I75_4, ob_some, cVv75, show X11_wrong 75 1 _ _ = _ from e, ob_some]
theorem mF_must (h : m 75 13 = 1) (k : Nat) : X11_must 75 k (enc c j w m n) = some (enc c j w m n) := by
  unfold X11_must
  rw [I75_13, ob_some, h, if_neg (by decide)]
theorem m_pass (h : JT m T s p) : ∃ m', X11_pass 75 (enc c j w m n) = some (enc c j w m' n) ∧ QM m m' ∧ JT m' T s (nxq T s p) := by
  obtain ⟨m', e, q, t⟩ := m_adv (c := c) (j := j) (w := w) (n := n) h
  refine ⟨m', ?_, q, t⟩
  unfold X11_pass
  rw [I75_13, ob_some, h.2.2.2, if_pos rfl, cVv75, e, ob_some]
theorem mF_pass (h : m 75 13 = 1) : X11_pass 75 (enc c j w m n) = some (enc c j w m n) := by
  unfold X11_pass
  rw [I75_13, ob_some, h, if_neg (by decide)]
theorem tk_n (hp : p ≤ s) : (nI (tkc (srt T s p)) = 3) ↔ srt T s p = 2 := by
  have := srt_le (T := T) hp
  unfold tkc
  rcases Nat.lt_or_ge (srt T s p) 1 with h | h
  · rw [show srt T s p = 0 by omega]; decide
  · rcases Nat.lt_or_ge (srt T s p) 2 with h | h
    · rw [show srt T s p = 1 by omega]; decide
    · rcases Nat.lt_or_ge (srt T s p) 3 with h | h
      · rw [show srt T s p = 2 by omega]; decide
      · rcases Nat.lt_or_ge (srt T s p) 4 with h | h
        · rw [show srt T s p = 3 by omega]; decide
        · rw [show srt T s p = 4 by omega]; decide
theorem m_nh1 (h : JT m T s p) {lo hi : Nat} (hl : lo < 1000) (hh : hi < 1000) (z : fNm T s lo hi p = 0) : X11_numberHere 75 (nI lo) (nI hi) (enc c j w m n) = some (nI (whn T s p), enc c j w m n) := by
  obtain ⟨z1, z2, z3, z4⟩ := whn_ok hh hl z
  have e7 := h.2.1.2.2.2.1 z1
  have e7' : m 75 7 = nI (whn T s p) := by rw [e7]; exact z2
  unfold X11_numberHere X11_numberHere_B50
  rw [I75_13, ob_some, h.2.2.2, if_pos rfl, I75_6, ob_some, h.2.1.2.2.1, if_pos ((tk_n h.2.2.1).mpr z1), I75_7, ob_some, e7', m_in1 z3 z4 (by omega), bd_eq, if_neg (by decide), I75_13, ob_some, h.2.2.2, if_pos rfl, I75_7, ob_some, e7']
theorem m_nh0 (h : JT m T s p) {lo hi : Nat} (z : fNm T s lo hi p ≠ 0) : ∃ m', X11_numberHere 75 (nI lo) (nI hi) (enc c j w m n) = some (nI lo, enc c j w m' n) ∧ QB m m' ∧ BF m' (fNm T s lo hi p) (stp T s p) := by
  unfold X11_numberHere X11_numberHere_B50
  rw [I75_13, ob_some, h.2.2.2, if_pos rfl, I75_6, ob_some, h.2.1.2.2.1]
  by_cases q : srt T s p = 2
  · obtain ⟨m', e, q', b⟩ := m_wrong0 (c := c) (j := j) (w := w) (n := n) h.2.2.2 (f := 4) h.2.1.1
    have hz : ¬ (¬ whq T s p < nI lo ∧ whq T s p ≤ nI hi) := fun y => z (by unfold fNm; rw [if_pos q, if_pos y])
    have hf : fNm T s lo hi p = 4 := by unfold fNm; rw [if_pos q, if_neg hz]
    refine ⟨m', ?_, q', by rw [hf]; exact b⟩
    rw [if_pos ((tk_n h.2.2.1).mpr q), I75_7, ob_some, h.2.1.2.2.2.1 q, m_in, if_neg (fun y => hz ⟨y.1, Int32.not_lt.mp y.2⟩), bd_eq, if_pos rfl, I75_4, ob_some, cVv75, show X11_wrong 75 4 _ _ = _ from e, ob_some, I75_13, ob_some, b.1, if_neg (by decide)]
  · obtain ⟨m', e, q', b⟩ := m_wrong0 (c := c) (j := j) (w := w) (n := n) h.2.2.2 (f := 1) h.2.1.1
    have hf : fNm T s lo hi p = 1 := by unfold fNm; rw [if_neg q]
    refine ⟨m', ?_, q', by rw [hf]; exact b⟩
    rw [if_neg (fun y => q ((tk_n h.2.2.1).mp y)), I75_4, ob_some, cVv75, show X11_wrong 75 1 _ _ = _ from e, ob_some, I75_13, ob_some, b.1, if_neg (by decide)]
theorem mF_nh (h : m 75 13 = 1) (lo hi : Int32) : X11_numberHere 75 lo hi (enc c j w m n) = some (lo, enc c j w m n) := by
  unfold X11_numberHere
  rw [I75_13, ob_some, h, if_neg (by decide)]
theorem m_nm1 (h : JT m T s p) {lo hi : Nat} (hl : lo < 1000) (hh : hi < 1000) (z : fNm T s lo hi p = 0) : ∃ m', X11_number 75 (nI lo) (nI hi) (enc c j w m n) = some (nI (whn T s p), enc c j w m' n) ∧ QM m m' ∧ JT m' T s (nxq T s p) := by
  obtain ⟨m', e, q, t⟩ := m_pass (c := c) (j := j) (w := w) (n := n) h
  refine ⟨m', ?_, q, t⟩
  unfold X11_number
  rw [cV75, m_nh1 h hl hh z, bd_eq, cVv75, e, ob_some]
theorem m_nm0 (h : JT m T s p) {lo hi : Nat} (z : fNm T s lo hi p ≠ 0) : ∃ m', X11_number 75 (nI lo) (nI hi) (enc c j w m n) = some (nI lo, enc c j w m' n) ∧ QB m m' ∧ BF m' (fNm T s lo hi p) (stp T s p) := by
  obtain ⟨m', e, q, b⟩ := m_nh0 (c := c) (j := j) (w := w) (n := n) h z
  refine ⟨m', ?_, q, b⟩
  unfold X11_number
  rw [cV75, e, bd_eq, cVv75, mF_pass b.1, ob_some]
theorem mF_nm (h : m 75 13 = 1) (lo hi : Int32) : X11_number 75 lo hi (enc c j w m n) = some (lo, enc c j w m n) := by
  unfold X11_number
  rw [cV75, mF_nh h, bd_eq, cVv75, mF_pass h, ob_some]
theorem mF_aft (h : m 75 13 = 1) (k : Nat) (lo hi : Int32) : X11_after 75 k lo hi (enc c j w m n) = some (lo, enc c j w m n) := by
  unfold X11_after
  rw [cVv75, mF_must h, ob_some, cV75, mF_nm h, bd_eq]
/-- a word, and a number after it -/
def fAf (T : Nat → Nat) (s k lo hi p : Nat) (K : Out) : Out := nd T s (fWd T s k p) p (nd T s (fNm T s lo hi (nxq T s p)) (nxq T s p) K)
theorem m_aft (h : JT m T s p) {k lo hi : Nat} (hk : k < 44) (hl : lo < 1000) (hh : hi < 1000) : (fWd T s k p = 0 → fNm T s lo hi (nxq T s p) = 0 → ∃ m', X11_after 75 k (nI lo) (nI hi) (enc c j w m n) = some (nI (whn T s (nxq T s p)), enc c j w m' n) ∧ QM m m' ∧ JT m' T s (nxq T s (nxq T s p))) ∧ (fWd T s k p = 0 → fNm T s lo hi (nxq T s p) ≠ 0 → ∃ m', X11_after 75 k (nI lo) (nI hi) (enc c j w m n) = some (nI lo, enc c j w m' n) ∧ QB m m' ∧ BF m' (fNm T s lo hi (nxq T s p)) (stp T s (nxq T s p))) ∧ (fWd T s k p ≠ 0 → ∃ m', X11_after 75 k (nI lo) (nI hi) (enc c j w m n) = some (nI lo, enc c j w m' n) ∧ QB m m' ∧ BF m' (fWd T s k p) (stp T s p)) := by
  refine ⟨fun z1 z2 => ?_, fun z1 z2 => ?_, fun z1 => ?_⟩
  · obtain ⟨m1, e1, q1, t1⟩ := m_must1 (c := c) (j := j) (w := w) (n := n) h hk z1
    obtain ⟨m2, e2, q2, t2⟩ := m_nm1 (c := c) (j := j) (w := w) (n := n) t1 hl hh z2
    refine ⟨m2, ?_, q1.tr q2, t2⟩
    unfold X11_after
    rw [cVv75, e1, ob_some, cV75, e2, bd_eq]
  · obtain ⟨m1, e1, q1, t1⟩ := m_must1 (c := c) (j := j) (w := w) (n := n) h hk z1
    obtain ⟨m2, e2, q2, t2⟩ := m_nm0 (c := c) (j := j) (w := w) (n := n) t1 z2
    refine ⟨m2, ?_, q1.b.tr q2, t2⟩
    unfold X11_after
    rw [cVv75, e1, ob_some, cV75, e2, bd_eq]
  · obtain ⟨m1, e1, q1, t1⟩ := m_must0 (c := c) (j := j) (w := w) (n := n) h hk z1
    refine ⟨m1, ?_, q1, t1⟩
    unfold X11_after
    rw [cVv75, e1, ob_some, cV75, mF_nm t1.1, bd_eq]
/-- names as the reference keeps them -/
def NMM (m : Nat → Nat → Int32) (T : Nat → Nat) (V : Nat → Nat → Nat) : Prop := (∀ r, r < 2 → ∀ i, i < V 20 r → m 79 (83 + 5 * r + i) = nI (V (15 + r) i) ∧ ∀ k, k < V (15 + r) i → m 79 (92 + 8 * (5 * r + i) + k) = nI (T (V (13 + r) i + k))) ∧ ∀ r, r < 2 → ∀ i, V 20 r ≤ i → i < 5 - r → m 79 (83 + 5 * r + i) = 0
theorem m_mustN1 (h : JT m T s p) (z1 : srt T s p = 1) (z2 : bgs T s p = false) : X11_mustName 75 (enc c j w m n) = some (enc c j w m n) := by
  have I : ∀ k, k < 44 → X11_isWord 75 k (enc c j w m n) = some (if isW T s k p then 1 else 0, enc c j w m n) := fun k hk => m_isW h.1.2.1 h.2.2.1 h.2.1 h.2.2.2 hk
  unfold bgs at z2
  simp only [Bool.or_eq_false_iff] at z2
  obtain ⟨⟨⟨⟨⟨⟨⟨a0, a4⟩, a5⟩, a6⟩, a7⟩, a8⟩, a9⟩, a10⟩ := z2
  unfold X11_mustName
  rw [I75_6, ob_some, h.2.1.2.2.1, if_pos ((tk_w h.2.2.1).mpr z1), cV75, I 22 (by decide), show isW T s 22 p = false from a0, bd_eq, if_pos (by decide), cV75, I 26 (by decide), show isW T s 26 p = false from a4, bd_eq, if_pos (by decide), cV75, I 27 (by decide), show isW T s 27 p = false from a5, bd_eq, if_pos (by decide), cV75, I 28 (by decide), show isW T s 28 p = false from a6, bd_eq, if_pos (by decide), cV75, I 29 (by decide), show isW T s 29 p = false from a7, bd_eq, if_pos (by decide), cV75, I 30 (by decide), show isW T s 30 p = false from a8, bd_eq, if_pos (by decide), cV75, I 31 (by decide), show isW T s 31 p = false from a9, bd_eq, if_pos (by decide), cV75, I 32 (by decide), show isW T s 32 p = false from a10, bd_eq, if_pos (by decide)]
theorem m_mustN0 (h : JT m T s p) (z : ¬ (srt T s p = 1 ∧ bgs T s p = false)) : ∃ m', X11_mustName 75 (enc c j w m n) = some (enc c j w m' n) ∧ QB m m' ∧ BF m' 1 (stp T s p) := by
  have I : ∀ k, k < 44 → X11_isWord 75 k (enc c j w m n) = some (if isW T s k p then 1 else 0, enc c j w m n) := fun k hk => m_isW h.1.2.1 h.2.2.1 h.2.1 h.2.2.2 hk
  obtain ⟨m', e, q, b⟩ := m_wrong0 (c := c) (j := j) (w := w) (n := n) h.2.2.2 (f := 1) h.2.1.1
  have B : X11_mustName_B80 75 (enc c j w m n) = some (enc c j w m' n) := by
    unfold X11_mustName_B80
    rw [I75_4, ob_some, cVv75, show X11_wrong 75 1 _ _ = _ from e, ob_some]
  refine ⟨m', ?_, q, b⟩
  unfold X11_mustName
  rw [I75_6, ob_some, h.2.1.2.2.1]
  by_cases z1 : srt T s p = 1
  · have zb : bgs T s p = true := by
      cases y : bgs T s p with
      | true => rfl
      | false => exact absurd ⟨z1, y⟩ z
    unfold bgs at zb
    have R : ∀ b : Bool, ∀ X Y : Option Hp, (if (if b then (1 : Int32) else 0) = 0 then X else Y) = if b then Y else X := by intro b X Y; cases b <;> simp
    rw [if_pos ((tk_w h.2.2.1).mpr z1), cV75, I 22 (by decide), show isW T s 22 p = isW T s 0 p from rfl, bd_eq, R, cV75, I 26 (by decide), show isW T s 26 p = isW T s 4 p from rfl, bd_eq, R, cV75, I 27 (by decide), show isW T s 27 p = isW T s 5 p from rfl, bd_eq, R, cV75, I 28 (by decide), show isW T s 28 p = isW T s 6 p from rfl, bd_eq, R, cV75, I 29 (by decide), show isW T s 29 p = isW T s 7 p from rfl, bd_eq, R, cV75, I 30 (by decide), show isW T s 30 p = isW T s 8 p from rfl, bd_eq, R, cV75, I 31 (by decide), show isW T s 31 p = isW T s 9 p from rfl, bd_eq, R, cV75, I 32 (by decide), show isW T s 32 p = isW T s 10 p from rfl, bd_eq, R, B]
    revert zb
    cases isW T s 0 p <;> cases isW T s 4 p <;> cases isW T s 5 p <;> cases isW T s 6 p <;> cases isW T s 7 p <;> cases isW T s 8 p <;> cases isW T s 9 p <;> cases isW T s 10 p <;> intro zb <;> first | rfl | cases zb
  · rw [if_neg (fun y => z1 ((tk_w h.2.2.1).mp y)), B]
end
