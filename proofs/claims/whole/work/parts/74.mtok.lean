/-! the reference reads a token -/
section
variable {c : Nat → Nat → Int32} {j : Nat → Nat → Int64} {w : Nat → Nat} {m : Nat → Nat → Int32} {n : Nat → Nat → Int64} {T : Nat → Nat} {s p : Nat}
def MT (m : Nat → Nat → Int32) (T : Nat → Nat) (s : Nat) : Prop := s ≤ 900 ∧ (∀ i, T i < 256) ∧ (m 75 3 = nI s ∧ m 75 9 = 0) ∧ ∀ i, i < s → m 76 i = nI (T i)
def QM (m m' : Nat → Nat → Int32) : Prop := (∀ y, y ≠ 75 → y ≠ 77 → m' y = m y) ∧ ∀ f, f ≠ 4 → f ≠ 5 → f ≠ 6 → f ≠ 7 → f ≠ 8 → m' 75 f = m 75 f
theorem MT.mq {m' : Nat → Nat → Int32} (h : MT m T s) (f : QM m m') : MT m' T s := ⟨h.1, h.2.1, ⟨by rw [f.2 3 (by omega) (by omega) (by omega) (by omega) (by omega)]; exact h.2.2.1.1, by rw [f.2 9 (by omega) (by omega) (by omega) (by omega) (by omega)]; exact h.2.2.1.2⟩, fun i hi => by rw [f.1 76 (by omega) (by omega)]; exact h.2.2.2 i hi⟩
theorem QM.tr {m m1 m2 : Nat → Nat → Int32} (a : QM m m1) (b : QM m1 m2) : QM m m2 := ⟨fun y h1 h2 => by rw [b.1 y h1 h2, a.1 y h1 h2], fun f h1 h2 h3 h4 h5 => by rw [b.2 f h1 h2 h3 h4 h5, a.2 f h1 h2 h3 h4 h5]⟩
theorem QM.rf (m : Nat → Nat → Int32) : QM m m := ⟨fun _ _ _ => rfl, fun _ _ _ _ _ _ => rfl⟩
theorem QM.up {m : Nat → Nat → Int32} {f : Nat} (x : Int32) (h : f = 4 ∨ f = 5 ∨ f = 6 ∨ f = 7 ∨ f = 8) : QM m (va_up m 75 (upd (m 75) f x)) := ⟨fun y hy _ => vup_ne _ _ hy, fun g h1 h2 h3 h4 h5 => by rw [vup_at, upd_ne (by omega)]⟩
theorem QM.lt {m : Nat → Nat → Int32} {f : Nat} (x : Int32) : QM m (va_up m 77 (upd (m 77) f x)) := ⟨fun y _ hy => vup_ne _ _ hy, fun g h1 h2 h3 h4 h5 => by rw [vup_ne _ _ (by decide)]⟩
theorem u75 {m : Nat → Nat → Int32} {f : Nat} {x : Int32} : va_up m 75 (upd (m 75) f x) 75 f = x := by rw [vup_at, upd_at]
theorem v75 {m : Nat → Nat → Int32} {f g : Nat} {x : Int32} (h : g ≠ f) : va_up m 75 (upd (m 75) f x) 75 g = m 75 g := by rw [vup_at, upd_ne h]
theorem w75 {m : Nat → Nat → Int32} {f y : Nat} {x : Int32} (h : y ≠ 75) : va_up m 75 (upd (m 75) f x) y = m y := vup_ne _ _ h
theorem m_see (h : MT m T s) {i : Nat} (hi : i ≤ 900) : X11_see 75 (nI i) (enc c j w m n) = some (if i < s then nI (T i) else -1, enc c j w m n) := by
  have := h.1
  unfold X11_see
  rw [I75_3, ob_some, h.2.2.1.1]
  by_cases q : i < s
  · rw [if_neg (by rw [N_le (by omega) (by omega)]; omega), R75_1, ob_some, M76 (by omega), ob_some, h.2.2.2 i q, if_pos q]
  · rw [if_pos (by rw [N_le (by omega) (by omega)]; omega), if_neg q]
theorem so_1 (b : Nat) : so b = 1 ↔ 97 ≤ b ∧ b ≤ 122 := by
  unfold so
  by_cases h : 97 ≤ b ∧ b ≤ 122
  · rw [if_pos h]; exact ⟨fun _ => h, fun _ => rfl⟩
  · rw [if_neg h]
    constructor
    · intro z
      repeat' split at z
      all_goals omega
    · intro z; exact absurd z h
theorem so_2 (b : Nat) : so b = 2 ↔ 48 ≤ b ∧ b ≤ 57 := by
  unfold so
  by_cases h : 48 ≤ b ∧ b ≤ 57
  · rw [if_neg (by omega), if_pos h]; exact ⟨fun _ => h, fun _ => rfl⟩
  · rw [if_neg h]
    constructor
    · intro z
      repeat' split at z
      all_goals omega
    · intro z; exact absurd z h
theorem m_small {b : Nat} (hb : b < 256) (h : Hp) : X11_isSmall (nI b) h = some (if so b = 1 then 1 else 0, h) := by
  have l : ∀ x y : Nat, x < 300 → y < 300 → ((nI x < nI y) ↔ x < y) := fun x y h1 h2 => N_lt (by omega) (by omega)
  unfold X11_isSmall
  rw [show (97 : Int32) = nI 97 from rfl, show (122 : Int32) = nI 122 from rfl]
  simp only [l b 97 (by omega) (by omega), l 122 b (by omega) (by omega), so_1]
  by_cases a1 : 97 ≤ b ∧ b ≤ 122
  · rw [if_neg (show ¬ b < 97 by omega), if_neg (show ¬ 122 < b by omega), if_pos a1, rZ_1]
  · rw [if_neg a1]
    by_cases a5 : b < 97
    · rw [if_pos a5, rZ_0]
    · rw [if_neg a5, if_pos (show 122 < b by omega), rZ_0]
theorem m_digit {b : Nat} (hb : b < 256) (h : Hp) : X11_isDigit (nI b) h = some (if so b = 2 then 1 else 0, h) := by
  have l : ∀ x y : Nat, x < 300 → y < 300 → ((nI x < nI y) ↔ x < y) := fun x y h1 h2 => N_lt (by omega) (by omega)
  unfold X11_isDigit
  rw [show (48 : Int32) = nI 48 from rfl, show (57 : Int32) = nI 57 from rfl]
  simp only [l b 48 (by omega) (by omega), l 57 b (by omega) (by omega), so_2]
  by_cases a1 : 48 ≤ b ∧ b ≤ 57
  · rw [if_neg (show ¬ b < 48 by omega), if_neg (show ¬ 57 < b by omega), if_pos a1, rZ_1]
  · rw [if_neg a1]
    by_cases a5 : b < 48
    · rw [if_pos a5, rZ_0]
    · rw [if_neg a5, if_pos (show 57 < b by omega), rZ_0]
theorem m_smallN (h : Hp) : X11_isSmall (-1) h = some (0, h) := by unfold X11_isSmall; rw [if_pos (by decide), rZ_0]
theorem m_digitN (h : Hp) : X11_isDigit (-1) h = some (0, h) := by unfold X11_isDigit; rw [if_pos (by decide), rZ_0]
/-- the token at p, as the reference holds it -/
def tkc (k : Nat) : Nat := if k = 0 then 0 else if k = 1 then 2 else if k = 2 then 3 else if k = 3 then 59 else 1
def TKM (m : Nat → Nat → Int32) (T : Nat → Nat) (s p : Nat) : Prop := m 75 4 = nI (stp T s p) ∧ m 75 5 = nI (nxq T s p) ∧ m 75 6 = nI (tkc (srt T s p)) ∧ (srt T s p = 2 → m 75 7 = wh T (stp T s p) (nxq T s p - stp T s p)) ∧ (srt T s p = 1 → m 75 8 = nI (nxq T s p - stp T s p) ∧ ∀ i, i < nxq T s p - stp T s p → m 77 i = nI (T (stp T s p + i)))
theorem m_word (h : MT m T s) (hp : p ≤ s) (q1 : so1 T s p = 1) (e4 : m 75 4 = nI (stp T s p)) (e8 : m 75 8 = 0) : ∃ m', X11_next_L67 5000 75 (nI (stp T s p)) (enc c j w m n) = some (enc c j w m' n) ∧ QM m m' ∧ TKM m' T s p := by
  have hs := h.1
  obtain ⟨n1, n2, n3, n4, n5, n6, n7⟩ := nxq_ok (T := T) hp
  refine loop_up (z := fun _ _ _ => none) (s := X11_next_L67_s) (nxq T s p) (fun i f => stp T s p ≤ i → ∀ m1, QM m m1 → m1 75 4 = nI (stp T s p) → m1 75 8 = nI (i - stp T s p) → (∀ k, k < i - stp T s p → k < 8 → m1 77 k = nI (T (stp T s p + k))) → ∃ m', f 75 (nI i) (enc c j w m1 n) = some (enc c j w m' n) ∧ QM m m' ∧ TKM m' T s p) ?_ ?_ 5000 (stp T s p) n1 (by omega) (Nat.le_refl _) m (QM.rf m) e4 (by rw [Nat.sub_self]; exact e8) (fun k hk => by omega)
  · intro i f hi ih hpi m1 k1 d4 d8 dl
    obtain ⟨b1, b2⟩ := n3 i hpi hi
    have b3 := n5 (Or.inl q1) i hpi hi
    have h1 := h.mq k1
    have e1 : nI (i - stp T s p) + 1 = nI (i + 1 - stp T s p) := by rw [show (1 : Int32) = nI 1 from rfl, N_add]; exact congrArg nI (by omega)
    unfold X11_next_L67_s X11_next_B101
    rw [cV75, m_see h1 (by omega), if_pos b1, bd_eq, m_small (h1.2.1 i), b3, q1, if_pos rfl, bd_eq, if_neg (by decide), I75_8, ob_some, d8, show (8 : Int32) = nI 8 from rfl]
    by_cases q : 8 ≤ i - stp T s p
    · rw [if_pos (by rw [N_le (by omega) (by omega)]; exact q), ob_some, P75_8, ob_some, show nI i + 1 = nI (i + 1) from N_add i 1]
      refine ih (by omega) _ (k1.tr (QM.up _ (by omega))) (by rw [v75 (by decide)]; exact d4) (by rw [u75, e1]) (fun k hk h8 => by rw [w75 (by decide)]; exact dl k (by omega) h8)
    · rw [if_neg (by rw [N_le (by omega) (by omega)]; exact q), R75_12, ob_some, ob_some, cV75, m_see h1 (by omega), if_pos b1, bd_eq, S77 (by omega), ob_some, I75_8, ob_some, P75_8, ob_some, show nI i + 1 = nI (i + 1) from N_add i 1]
      have e2 : va_up m1 77 (upd (m1 77) (i - stp T s p) (nI (T i))) 75 = m1 75 := vup_ne _ _ (by decide)
      refine ih (by omega) _ ((k1.tr (QM.lt _)).tr (QM.up _ (by omega))) (by rw [v75 (by decide), e2]; exact d4) (by rw [u75, e2, d8, e1]) (fun k hk h8 => ?_)
      rw [w75 (by decide), vup_at]
      by_cases z : k = i - stp T s p
      · rw [z, upd_at]; exact congrArg (fun q => nI (T q)) (by omega)
      · rw [upd_ne z]; exact dl k (by omega) h8
  · intro f hpi m1 k1 d4 d8 dl
    have h1 := h.mq k1
    unfold X11_next_L67_s X11_next_B137
    have E : X11_isSmall (if nxq T s p < s then nI (T (nxq T s p)) else -1) (enc c j w m1 n) = some (0, enc c j w m1 n) := by
      by_cases q : nxq T s p < s
      · have := (n4.resolve_left (by omega)).2.resolve_left (by unfold flg; rw [if_pos (Or.inl q1)]; decide)
        rw [if_pos q, m_small (h1.2.1 _), if_neg (by rw [q1] at this; exact this)]
      · rw [if_neg q, m_smallN]
    rw [cV75, m_see h1 (by omega), bd_eq, E, bd_eq, if_pos rfl, P75_5, ob_some, I75_8, ob_some, v75 (by decide), d8, show (8 : Int32) = nI 8 from rfl]
    by_cases q : nxq T s p - stp T s p ≤ 8
    · have hr : srt T s p = 1 := by unfold srt; rw [if_pos q1, if_pos q]
      rw [if_pos (by rw [N_le (by omega) (by omega)]; exact q), P75_6, ob_some]
      refine ⟨_, rfl, (k1.tr (QM.up _ (by omega))).tr (QM.up _ (by omega)), by rw [v75 (by decide), v75 (by decide)]; exact d4, by rw [v75 (by decide), u75], by rw [u75, hr]; rfl, fun z => by omega, fun _ => ⟨by rw [v75 (by decide), v75 (by decide)]; exact d8, fun i hi => ?_⟩⟩
      rw [w75 (by decide), w75 (by decide)]
      exact dl i hi (by omega)
    · have hr : srt T s p = 4 := by unfold srt; rw [if_pos q1, if_neg q]
      rw [if_neg (by rw [N_le (by omega) (by omega)]; exact q), P75_6, ob_some]
      exact ⟨_, rfl, (k1.tr (QM.up _ (by omega))).tr (QM.up _ (by omega)), by rw [v75 (by decide), v75 (by decide)]; exact d4, by rw [v75 (by decide), u75], by rw [u75, hr]; rfl, fun z => by omega, fun z => by omega⟩
theorem m_whole (h : MT m T s) (hp : p ≤ s) (q1 : so1 T s p = 2) (e4 : m 75 4 = nI (stp T s p)) (e7 : m 75 7 = 0) : ∃ m', X11_next_L152 5000 75 (nI (stp T s p)) 0 (enc c j w m n) = some (enc c j w m' n) ∧ QM m m' ∧ TKM m' T s p := by
  have hs := h.1
  obtain ⟨n1, n2, n3, n4, n5, n6, n7⟩ := nxq_ok (T := T) hp
  refine loop_up (z := fun _ _ _ _ => none) (s := X11_next_L152_s) (nxq T s p) (fun i f => stp T s p ≤ i → ∀ m1 x, x = nI (i - stp T s p) → QM m m1 → m1 75 4 = nI (stp T s p) → (i - stp T s p ≤ 3 → m1 75 7 = wh T (stp T s p) (i - stp T s p)) → ∃ m', f 75 (nI i) x (enc c j w m1 n) = some (enc c j w m' n) ∧ QM m m' ∧ TKM m' T s p) ?_ ?_ 5000 (stp T s p) n1 (by omega) (Nat.le_refl _) m 0 (by rw [Nat.sub_self]; rfl) (QM.rf m) e4 (fun _ => by rw [Nat.sub_self]; exact e7)
  · intro i f hi ih hpi m1 x hx k1 d4 d7
    obtain ⟨b1, b2⟩ := n3 i hpi hi
    have b3 := n5 (Or.inr q1) i hpi hi
    have h1 := h.mq k1
    have e1 : nI (i - stp T s p) + 1 = nI (i + 1 - stp T s p) := by rw [show (1 : Int32) = nI 1 from rfl, N_add]; exact congrArg nI (by omega)
    unfold X11_next_L152_s X11_next_B188
    rw [hx, cV75, m_see h1 (by omega), if_pos b1, bd_eq, m_digit (h1.2.1 i), b3, q1, if_pos rfl, bd_eq, if_neg (by decide), show (3 : Int32) = nI 3 from rfl]
    by_cases q : 3 ≤ i - stp T s p
    · rw [if_pos (by rw [N_le (by omega) (by omega)]; exact q), show nI i + 1 = nI (i + 1) from N_add i 1]
      exact ih (by omega) _ _ e1 k1 d4 (fun z => by omega)
    · rw [if_neg (by rw [N_le (by omega) (by omega)]; exact q), I75_7, ob_some, cV75, m_see h1 (by omega), if_pos b1, bd_eq, P75_7, ob_some, show nI i + 1 = nI (i + 1) from N_add i 1]
      refine ih (by omega) _ _ e1 (k1.tr (QM.up _ (by omega))) (by rw [v75 (by decide)]; exact d4) (fun z => ?_)
      rw [u75, d7 (by omega), show i + 1 - stp T s p = (i - stp T s p) + 1 by omega, wh, show stp T s p + (i - stp T s p) = i by omega]
  · intro f hpi m1 x hx k1 d4 d7
    have h1 := h.mq k1
    unfold X11_next_L152_s X11_next_B213
    have E : X11_isDigit (if nxq T s p < s then nI (T (nxq T s p)) else -1) (enc c j w m1 n) = some (0, enc c j w m1 n) := by
      by_cases q : nxq T s p < s
      · have := (n4.resolve_left (by omega)).2.resolve_left (by unfold flg; rw [if_pos (Or.inr q1)]; decide)
        rw [if_pos q, m_digit (h1.2.1 _), if_neg (by rw [q1] at this; exact this)]
      · rw [if_neg q, m_digitN]
    rw [hx, cV75, m_see h1 (by omega), bd_eq, E, bd_eq, if_pos rfl, P75_5, ob_some, show (3 : Int32) = nI 3 from rfl]
    by_cases q : nxq T s p - stp T s p ≤ 3
    · have hr : srt T s p = 2 := by unfold srt; rw [if_neg (by omega), if_pos q1, if_pos q]
      rw [if_pos (by rw [N_le (by omega) (by omega)]; exact q), P75_6, ob_some]
      exact ⟨_, rfl, (k1.tr (QM.up _ (by omega))).tr (QM.up _ (by omega)), by rw [v75 (by decide), v75 (by decide)]; exact d4, by rw [v75 (by decide), u75], by rw [u75, hr]; rfl, fun _ => by rw [v75 (by decide), v75 (by decide)]; exact d7 q, fun z => by omega⟩
    · have hr : srt T s p = 4 := by unfold srt; rw [if_neg (by omega), if_pos q1, if_neg q]
      rw [if_neg (by rw [N_le (by omega) (by omega)]; exact q), P75_6, ob_some]
      exact ⟨_, rfl, (k1.tr (QM.up _ (by omega))).tr (QM.up _ (by omega)), by rw [v75 (by decide), v75 (by decide)]; exact d4, by rw [v75 (by decide), u75], by rw [u75, hr]; rfl, fun z => by omega, fun z => by omega⟩
theorem m_rest (h : MT m T s) (hp : p ≤ s) : ∃ m', X11_next_L5_s (X11_next_L5 0) 75 (nI (stp T s p)) (enc c j w m n) = some (enc c j w m' n) ∧ QM m m' ∧ TKM m' T s p := by
  have hs := h.1
  obtain ⟨a1, a2, a3, a4⟩ := stp_ok (T := T) hp
  obtain ⟨n1, n2, n3, n4, n5, n6, n7⟩ := nxq_ok (T := T) hp
  have hb := h.2.1 (stp T s p)
  have k1 : QM m (va_up m 75 (upd (m 75) 4 (nI (stp T s p)))) := QM.up _ (by omega)
  have k2 := k1.tr (QM.up (f := 8) 0 (by omega))
  have k3 := k2.tr (QM.up (f := 7) 0 (by omega))
  have h1 := h.mq k1
  have h3 := h.mq k3
  unfold X11_next_L5_s X11_next_B238
  rw [cV75, m_see h (by omega), bd_eq, if_neg (by
    by_cases q : stp T s p < s
    · rw [if_pos q, show (32 : Int32) = nI 32 from rfl, N_inj (by omega) (by omega)]; exact fun z => a4 ⟨q, z⟩
    · rw [if_neg q]; decide), P75_4, ob_some, cV75, m_see h1 (by omega), bd_eq, P75_8, ob_some, P75_7, ob_some]
  by_cases q : stp T s p < s
  · have hk : so1 T s p = so (T (stp T s p)) := by unfold so1; rw [if_pos q]
    rw [if_pos q, if_neg (show ¬ nI (T (stp T s p)) = -1 by rw [nI_iI, show (-1 : Int32) = iI (-1) from rfl, Z_inj (by omega) (by omega) (by omega) (by omega)]; omega), m_small hb, ← hk, bd_eq]
    by_cases q1 : so1 T s p = 1
    · rw [if_pos q1, if_neg (by decide)]
      obtain ⟨m', r1, r2, r3⟩ := m_word (c := c) (j := j) (w := w) (n := n) h3 hp q1 (by rw [v75 (by decide), v75 (by decide), u75]) (by rw [v75 (by decide), u75])
      exact ⟨m', r1, k3.tr r2, r3⟩
    · rw [if_neg q1, if_pos rfl, m_digit hb, ← hk, bd_eq]
      by_cases q2 : so1 T s p = 2
      · rw [if_pos q2, if_neg (by decide)]
        obtain ⟨m', r1, r2, r3⟩ := m_whole (c := c) (j := j) (w := w) (n := n) h3 hp q2 (by rw [v75 (by decide), v75 (by decide), u75]) u75
        exact ⟨m', r1, k3.tr r2, r3⟩
      · have so4 := so_r (T (stp T s p))
        have hn : nxq T s p = stp T s p + 1 := by unfold nxq; rw [if_neg (by omega), if_neg (by omega)]
        have hr : srt T s p = so1 T s p := by unfold srt; rw [if_neg q1, if_neg q2]
        rw [if_neg q2, if_pos rfl, P75_5, ob_some, show nI (stp T s p) + 1 = nI (nxq T s p) by rw [hn]; exact N_add _ 1]
        have k4 := k3.tr (QM.up (f := 5) (nI (nxq T s p)) (by omega))
        by_cases q3 : T (stp T s p) = 59
        · have e3 : so1 T s p = 3 := by rw [hk, q3]; decide
          rw [if_pos (show nI (T (stp T s p)) = 59 by rw [q3]; rfl), P75_6, ob_some]
          refine ⟨_, rfl, k4.tr (QM.up _ (by omega)), by rw [v75 (by decide), v75 (by decide), v75 (by decide), v75 (by decide), u75], by rw [v75 (by decide), u75], by rw [u75, hr, e3, q3]; rfl, fun z => by omega, fun z => by omega⟩
        · have e3 : so1 T s p ≠ 3 := by
            rw [hk]; unfold so
            repeat' split
            all_goals omega
          rw [if_neg (show ¬ nI (T (stp T s p)) = 59 by rw [show (59 : Int32) = nI 59 from rfl, N_inj (by omega) (by omega)]; exact q3), P75_6, ob_some]
          refine ⟨_, rfl, k4.tr (QM.up _ (by omega)), by rw [v75 (by decide), v75 (by decide), v75 (by decide), v75 (by decide), u75], by rw [v75 (by decide), u75], by rw [u75, hr, show so1 T s p = 4 by omega]; rfl, fun z => by omega, fun z => by omega⟩
  · have h0 : so1 T s p = 0 := by unfold so1; rw [if_neg q]
    have hn : nxq T s p = stp T s p := by unfold nxq; rw [if_pos h0]
    have hr : srt T s p = 0 := by unfold srt; rw [h0]; rfl
    rw [if_neg q, if_pos rfl, P75_6, ob_some, P75_5, ob_some]
    exact ⟨_, rfl, (k3.tr (QM.up _ (by omega))).tr (QM.up _ (by omega)), by rw [v75 (by decide), v75 (by decide), v75 (by decide), v75 (by decide), u75], by rw [u75, hn], by rw [v75 (by decide), u75, hr]; rfl, fun z => by omega, fun z => by omega⟩
/-- THE REFERENCE READS A TOKEN -/
theorem m_next (h : MT m T s) (hp : p ≤ s) (e : m 75 5 = nI p) : ∃ m', X11_next 75 (enc c j w m n) = some (enc c j w m' n) ∧ QM m m' ∧ TKM m' T s p := by
  have hs := h.1
  obtain ⟨a1, a2, a3, a4⟩ := stp_ok (T := T) hp
  obtain ⟨m', r1, r2, r3⟩ := m_rest (c := c) (j := j) (w := w) (n := n) h hp
  refine ⟨m', ?_, r2, r3⟩
  unfold X11_next
  rw [I75_5, ob_some, e]
  refine loop_up (z := fun _ _ _ => none) (s := X11_next_L5_s) (stp T s p) (fun i f => p ≤ i → f 75 (nI i) (enc c j w m n) = some (enc c j w m' n)) ?_ ?_ 5000 p a1 (by omega) (Nat.le_refl _)
  · intro i f hi ih hpi
    obtain ⟨b1, b2⟩ := a3 i hpi hi
    unfold X11_next_L5_s
    rw [cV75, m_see h (by omega), if_pos b1, bd_eq, b2, if_pos (show nI 32 = 32 from rfl), show nI i + 1 = nI (i + 1) from N_add i 1]
    exact ih (by omega)
  · intro f hpi
    rw [← r1]
    unfold X11_next_L5_s
    have hb := h.2.1 (stp T s p)
    have z : ¬ (if stp T s p < s then nI (T (stp T s p)) else -1) = 32 := by
      by_cases q : stp T s p < s
      · rw [if_pos q, show (32 : Int32) = nI 32 from rfl, N_inj (by omega) (by omega)]; exact fun z => a4 ⟨q, z⟩
      · rw [if_neg q]; decide
    rw [cV75, m_see h (by omega), bd_eq, if_neg z, cV75, bd_eq, if_neg z]
end
