/-! the reference reads all lines -/
section
variable {c : Nat → Nat → Int32} {j : Nat → Nat → Int64} {w : Nat → Nat} {m m' : Nat → Nat → Int32} {n : Nat → Nat → Int64} {T : Nat → Nat} {s p : Nat} {V : Nat → Nat → Nat}
theorem tk_3 (hp : p ≤ s) : (nI (tkc (srt T s p)) = 59) ↔ srt T s p = 3 := by
  have := srt_le (T := T) hp
  unfold tkc
  rcases Nat.lt_or_ge (srt T s p) 1 with h | h
  · rw [show srt T s p = 0 by omega]; decide
  · rcases Nat.lt_or_ge (srt T s p) 2 with h | h
    · rw [show srt T s p = 1 by omega]; decide
    · rcases Nat.lt_or_ge (srt T s p) 3 with h | h
      · rw [show srt T s p = 2 by omega]; decide
      · rcases Nat.lt_or_ge (srt T s p) 4 with h | h
        · rw [show srt T s p = 3 by omega]; decide
        · rw [show srt T s p = 4 by omega]; decide
theorem tk_0 (hp : p ≤ s) : (nI (tkc (srt T s p)) = 0) ↔ srt T s p = 0 := by
  have := srt_le (T := T) hp
  unfold tkc
  rcases Nat.lt_or_ge (srt T s p) 1 with h | h
  · rw [show srt T s p = 0 by omega]; decide
  · rcases Nat.lt_or_ge (srt T s p) 2 with h | h
    · rw [show srt T s p = 1 by omega]; decide
    · rcases Nat.lt_or_ge (srt T s p) 3 with h | h
      · rw [show srt T s p = 2 by omega]; decide
      · rcases Nat.lt_or_ge (srt T s p) 4 with h | h
        · rw [show srt T s p = 3 by omega]; decide
        · rw [show srt T s p = 4 by omega]; decide
theorem v_end (J : JT m T s p) (D : MDt m T V) (g : GP T V) (h11 : V 20 11 = 1) : ∃ r m', X11_voyage_B125 75 (enc c j w m n) = some (r, enc c j w m' n) ∧ MR m (if srt T s p = 0 then jdg T s V p else .bad 1 (stp T s p)) r m' := by
  have C3 := g.1 3 (by decide)
  have C6 := g.1 6 (by decide)
  have C2 := g.1 2 (by decide)
  have C2' : cap 2 = 12 := rfl
  have C3' : cap 3 = 4 := rfl
  have C6' : cap 6 = 3 := rfl
  have c4 : m 79 4 = nI (V 20 2) := k_n D (t := 2) (by decide)
  have c5 : m 79 5 = nI (V 20 3) := k_n D (t := 3) (by decide)
  have c8 : m 79 8 = nI (V 20 6) := k_n D (t := 6) (by decide)
  have c9 : m 79 9 = nI 1 := by rw [D.2.2.1, h11]
  unfold X11_voyage_B125
  rw [I75_13, ob_some, J.2.2.2, if_pos rfl, I75_6, ob_some, J.2.1.2.2.1]
  by_cases q : srt T s p = 0
  · rw [if_pos ((tk_0 J.2.2.1).mpr q), if_pos q]
    unfold X11_voyage_B148 jdg
    rw [I75_13, ob_some, J.2.2.2, if_pos rfl, R75_16, ob_some, show aI _ 79 9 = _ from M79 (i := 9) (by decide), ob_some, c9, if_neg (by decide), ob_some, show aI _ 79 4 = _ from M79 (i := 4) (by decide), ob_some, c4]
    by_cases z : V 20 2 = 0
    · obtain ⟨m1, e1, q1, b1⟩ := m_wrong0 (c := c) (j := j) (w := w) (n := n) J.2.2.2 (f := 6) J.2.1.1
      have o1 : m1 79 = m 79 := q1.1 79 (by decide) (by decide)
      rw [if_pos (by rw [z]; rfl), if_pos z]
      unfold X11_voyage_B174
      rw [I75_4, ob_some, cVv75, show X11_wrong 75 6 _ _ = _ from e1, ob_some, vF184 (N := V 20 3) (N' := V 20 6) (by omega) (by omega) b1.1 (by rw [o1]; exact c5) (by rw [o1]; exact c8)]
      exact ⟨_, _, rfl, rfl, m1, rfl, q1.x, b1⟩
    · rw [if_neg (by rw [show (0 : Int32) = nI 0 from rfl, N_inj (by omega) (by omega)]; exact z), if_neg z]
      exact v_late J D g z
  · obtain ⟨m1, e1, q1, b1⟩ := m_wrong0 (c := c) (j := j) (w := w) (n := n) J.2.2.2 (f := 1) J.2.1.1
    have o1 : m1 79 = m 79 := q1.1 79 (by decide) (by decide)
    rw [if_neg (fun y => q ((tk_0 J.2.2.1).mp y)), if_neg q, I75_4, ob_some, cVv75, show X11_wrong 75 1 _ _ = _ from e1, ob_some, vF148 (N := V 20 3) (N' := V 20 6) (by omega) (by omega) b1.1 (by rw [o1]; exact c5) (by rw [o1]; exact c8)]
    exact ⟨_, _, rfl, rfl, m1, rfl, q1.x, b1⟩
theorem m_lines : ∀ (f : Nat) (V : Nat → Nat → Nat) (p : Nat) (m : Nat → Nat → Int32) (q : Nat), JT m T s p → MDt m T V → GP T V → s - p < f → s - p + 1 ≤ q → ∃ r m', ((X11_readLine 75 (enc c j w m n)).bind fun h => X11_voyage_L98 q 75 h) = some (r, enc c j w m' n) ∧ MR m (rdA T s f V p) r m'
  | 0, _, _, _, _, _, _, _, h, _ => absurd h (Nat.not_lt_zero _)
  | f + 1, V, p, m, q, J, D, g, hf, hq => by
    obtain ⟨q', rfl⟩ : ∃ q', q = q' + 1 := ⟨q - 1, by omega⟩
    have hp := J.2.2.1
    have n1 := nx_le (T := T) hp
    have C3 := g.1 3 (by decide)
    have C6 := g.1 6 (by decide)
    have C3' : cap 3 = 4 := rfl
    have C6' : cap 6 = 3 := rfl
    have ML := ml_line (c := c) (j := j) (w := w) (n := n) J D g
    have OP := op_ln hp g
    rw [rdA]
    cases e : ln T s V p with
    | inl x =>
      obtain ⟨fx, qx⟩ := x
      rw [e] at ML OP
      obtain ⟨m1, e1, f1, b1, d5, d8⟩ := ML
      have S : X11_voyage_L98 (q' + 1) 75 (enc c j w m1 n) = some (-1, enc c j w (tb m1 4) n) := by
        show X11_voyage_L98_s (X11_voyage_L98 q') 75 (enc c j w m1 n) = _
        unfold X11_voyage_L98_s
        rw [I75_13, ob_some, b1.1, if_neg (by decide), vF125 (N := V 20 3) (N' := V 20 6) (by omega) (by omega) b1.1 (by rw [d5]; exact k_n D (t := 3) (by decide)) (by rw [d8]; exact k_n D (t := 6) (by decide))]
      refine ⟨-1, tb m1 4, ?_, rfl, m1, rfl, f1, b1⟩
      rw [e1, ob_some, S]
    | inr x =>
      obtain ⟨V', p'⟩ := x
      rw [e] at ML OP
      obtain ⟨m1, e1, f1, J1, D1⟩ := ML
      obtain ⟨g', o11, o1, o2⟩ := OP
      show ∃ r m', _ = _ ∧ MR m (aft T s V' p' (rdA T s f V' (nxq T s p'))) r m'
      rw [e1, ob_some]
      show ∃ r m', X11_voyage_L98_s (X11_voyage_L98 q') 75 (enc c j w m1 n) = _ ∧ _
      unfold X11_voyage_L98_s aft
      rw [I75_13, ob_some, J1.2.2.2, if_pos rfl, I75_6, ob_some, J1.2.1.2.2.1]
      by_cases q3 : srt T s p' = 3
      · have n2 := nxq_gt (T := T) o2 (by omega)
        have n3 := (nx_le (T := T) o2).2
        obtain ⟨m2, e2, q2, J2⟩ := m_adv (c := c) (j := j) (w := w) (n := n) J1
        rw [if_pos ((tk_3 o2).mpr q3), if_pos q3, cVv75, e2, ob_some, cVv75]
        obtain ⟨r, m3, e3, r3⟩ := m_lines f V' (nxq T s p') m2 q' J2 (q2.d D1) g' (by omega) (by omega)
        exact ⟨r, m3, e3, r3.fr (f1.tr q2.x)⟩
      · rw [if_neg (fun y => q3 ((tk_3 o2).mp y)), if_neg q3]
        obtain ⟨r, m3, e3, r3⟩ := v_end (c := c) (j := j) (w := w) (n := n) J1 D1 g' o11
        exact ⟨r, m3, e3, r3.fr f1⟩
theorem m_z79 (x : Int32) : ∃ m', X11_voyage_L39 5000 75 x 0 (enc c j w m n) = X11_voyage_L61 5000 75 x 0 (enc c j w m' n) ∧ (∀ y, y ≠ 79 → m' y = m y) ∧ ∀ i, i < 164 → m' 79 i = 0 := by
  refine loop_up (z := fun _ _ _ _ => none) (s := X11_voyage_L39_s) 164 (fun i f => ∀ m1 : Nat → Nat → Int32, (∀ y, y ≠ 79 → m1 y = m y) → (∀ k, k < i → m1 79 k = 0) → ∃ m', f 75 x (nI i) (enc c j w m1 n) = X11_voyage_L61 5000 75 x 0 (enc c j w m' n) ∧ (∀ y, y ≠ 79 → m' y = m y) ∧ ∀ i, i < 164 → m' 79 i = 0) ?_ ?_ 5000 0 (Nat.zero_le _) (by omega) m (fun _ _ => rfl) (fun k h => absurd h (Nat.not_lt_zero _))
  · intro i f hi ih m1 f1 g1
    unfold X11_voyage_L39_s
    rw [if_neg (by rw [show (164 : Int32) = nI 164 from rfl, N_le (by omega) (by omega)]; omega), R75_16, ob_some, S79 hi, ob_some, show nI i + 1 = nI (i + 1) from N_add i 1]
    refine ih _ (fun y hy => by rw [vup_ne _ _ hy]; exact f1 y hy) fun k hk => ?_
    rw [vup_at]
    by_cases y : k = i
    · rw [y, upd_at]
    · rw [upd_ne y]; exact g1 k (by omega)
  · intro f m1 f1 g1
    refine ⟨m1, ?_, f1, g1⟩
    unfold X11_voyage_L39_s
    rw [if_pos (by decide)]
theorem m_z81 (x : Int32) : ∃ m', X11_voyage_L61 5000 75 x 0 (enc c j w m n) = X11_voyage_L61_s (X11_voyage_L61 0) 75 x 25 (enc c j w m' n) ∧ (∀ y, y ≠ 81 → m' y = m y) ∧ ∀ i, i < 25 → m' 81 i = 0 := by
  refine loop_up (z := fun _ _ _ _ => none) (s := X11_voyage_L61_s) 25 (fun i f => ∀ m1 : Nat → Nat → Int32, (∀ y, y ≠ 81 → m1 y = m y) → (∀ k, k < i → m1 81 k = 0) → ∃ m', f 75 x (nI i) (enc c j w m1 n) = X11_voyage_L61_s (X11_voyage_L61 0) 75 x 25 (enc c j w m' n) ∧ (∀ y, y ≠ 81 → m' y = m y) ∧ ∀ i, i < 25 → m' 81 i = 0) ?_ ?_ 5000 0 (Nat.zero_le _) (by omega) m (fun _ _ => rfl) (fun k h => absurd h (Nat.not_lt_zero _))
  · intro i f hi ih m1 f1 g1
    unfold X11_voyage_L61_s
    rw [if_neg (by rw [show (25 : Int32) = nI 25 from rfl, N_le (by omega) (by omega)]; omega), R75_18, ob_some, S81 hi, ob_some, show nI i + 1 = nI (i + 1) from N_add i 1]
    refine ih _ (fun y hy => by rw [vup_ne _ _ hy]; exact f1 y hy) fun k hk => ?_
    rw [vup_at]
    by_cases y : k = i
    · rw [y, upd_at]
    · rw [upd_ne y]; exact g1 k (by omega)
  · intro f m1 f1 g1
    refine ⟨m1, ?_, f1, g1⟩
    show X11_voyage_L61_s f 75 x 25 _ = _
    unfold X11_voyage_L61_s
    rw [if_pos (by decide), if_pos (by decide)]
theorem MD0 (h : ∀ i, i < 164 → m 79 i = 0) (h' : ∀ i, i < 25 → m 81 i = 0) : MDt m T V0 := by
  refine ⟨⟨h 0 (by decide), h 1 (by decide), h 10 (by decide), h 11 (by decide)⟩, fun t ht => h _ (by omega), h 9 (by decide), fun t _ i hi => absurd hi (Nat.not_lt_zero _), fun k hk => absurd hk (Nat.not_lt_zero _), h' 24 (by decide), fun r _ i hi => absurd hi (Nat.not_lt_zero _), fun r hr i _ hi => h _ (by omega)⟩
/-- THE REFERENCE READS A VOYAGE -/
theorem m_read {N : Nat} (hN : N ≤ 900) (hT : ∀ i, T i < 256) (h9 : m 75 9 = 0) (h13 : m 75 13 = 0) (ht : ∀ i, i < N → m 76 i = nI (T i)) : ∃ r m' m0, X11_voyage_L39 5000 75 (nI N) 0 (enc c j w m n) = some (r, enc c j w m' n) ∧ (∀ y, y ≠ 75 → y ≠ 77 → y ≠ 79 → y ≠ 81 → m0 y = m y) ∧ (∀ f, f ≠ 3 → f ≠ 4 → f ≠ 5 → f ≠ 6 → f ≠ 7 → f ≠ 8 → m0 75 f = m 75 f) ∧ MR m0 (rdA T N 1000 V0 0) r m' := by
  obtain ⟨m1, e1, f1, g1⟩ := m_z79 (c := c) (j := j) (w := w) (m := m) (n := n) (nI N)
  obtain ⟨m2, e2, f2, g2⟩ := m_z81 (c := c) (j := j) (w := w) (m := m1) (n := n) (nI N)
  have M2 : MT (va_up (va_up m2 75 (upd (m2 75) 3 (nI N))) 75 (upd (va_up m2 75 (upd (m2 75) 3 (nI N)) 75) 5 0)) T N := ⟨hN, hT, ⟨by rw [v75 (by decide), u75], by rw [v75 (by decide), v75 (by decide), f2 75 (by decide), f1 75 (by decide)]; exact h9⟩, fun i hi => by rw [w75 (by decide), w75 (by decide), f2 76 (by decide), f1 76 (by decide)]; exact ht i hi⟩
  obtain ⟨m3, e3, q3, k3⟩ := m_next (c := c) (j := j) (w := w) (n := n) (p := 0) M2 (Nat.zero_le _) u75
  have J3 : JT m3 T N 0 := ⟨M2.mq q3, k3, Nat.zero_le _, by rw [q3.2 13 (by omega) (by omega) (by omega) (by omega) (by omega), v75 (by decide), v75 (by decide), f2 75 (by decide), f1 75 (by decide)]; exact h13⟩
  have D3 : MDt m3 T V0 := MD0 (fun i hi => by rw [q3.1 79 (by decide) (by decide), w75 (by decide), w75 (by decide), f2 79 (by decide)]; exact g1 i hi) (fun i hi => by rw [q3.1 81 (by decide) (by decide), w75 (by decide), w75 (by decide)]; exact g2 i hi)
  obtain ⟨r, m4, e4, r4⟩ := m_lines (c := c) (j := j) (w := w) (n := n) 1000 V0 0 m3 5000 J3 D3 (GP0 T) (by omega) (by omega)
  refine ⟨r, m4, m3, ?_, fun y h1 h2 h3 h4 => by rw [q3.1 y h1 h2, w75 h1, w75 h1, f2 y h4, f1 y h3], fun f h1 h2 h3 h4 h5 h6 => by rw [q3.2 f h2 h3 h4 h5 h6, v75 h3, v75 h1, f2 75 (by decide), f1 75 (by decide)], r4⟩
  rw [e1, e2]
  unfold X11_voyage_L61_s
  rw [if_pos (by decide), P75_3, ob_some, P75_5, ob_some, cVv75, e3, ob_some, cVv75]
  exact e4
end
