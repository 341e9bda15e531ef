/-! the calls: the tape -/
def bt (x : Int32) (s : Nat) : Int32 := (x >>> (nI s &&& 31)) &&& 255
section
variable {c : Nat → Nat → Int32} {j : Nat → Nat → Int64} {w : Nat → Nat} {m : Nat → Nat → Int32} {n : Nat → Nat → Int64}
theorem c_put4 {t : Nat} (ht : t + 4 ≤ 900) (e : c 0 12 = nI t) (x : Int32) : ∃ c', X10_putOnTape 0 x (enc c j w m n) = some (enc c' j w m n) ∧ (∀ y, 1 < y → c' y = c y) ∧ (∀ f, f ≠ 12 → c' 0 f = c 0 f) ∧ c' 0 12 = nI (t + 4) ∧ (∀ i, i < t → c' 1 i = c 1 i) ∧ ∀ q, q < 4 → c' 1 (t + q) &&& 255 = bt x (24 - 8 * q) := by
  refine loop_up (z := fun _ _ _ _ => none) (s := X10_putOnTape_L3_s) 4 (fun i f => ∀ c1 : Nat → Nat → Int32, (∀ y, 1 < y → c1 y = c y) → (∀ f, f ≠ 12 → c1 0 f = c 0 f) → c1 0 12 = nI (t + i) → (∀ i, i < t → c1 1 i = c 1 i) → (∀ q, q < i → c1 1 (t + q) &&& 255 = bt x (24 - 8 * q)) → ∃ c', f 0 x (iI (24 - 8 * (i : Int))) (enc c1 j w m n) = some (enc c' j w m n) ∧ (∀ y, 1 < y → c' y = c y) ∧ (∀ f, f ≠ 12 → c' 0 f = c 0 f) ∧ c' 0 12 = nI (t + 4) ∧ (∀ i, i < t → c' 1 i = c 1 i) ∧ ∀ q, q < 4 → c' 1 (t + q) &&& 255 = bt x (24 - 8 * q)) ?_ ?_ 5000 0 (Nat.zero_le _) (by omega) c (fun _ _ => rfl) (fun _ _ => rfl) e (fun _ _ => rfl) (fun q h => absurd h (Nat.not_lt_zero _))
  · intro i f hi ih c1 f1 g1 s1 o1 b1
    have sh : iI (24 - 8 * (i : Int)) = nI (24 - 8 * i) := by rw [nI_iI]; exact congrArg iI (by omega)
    unfold X10_putOnTape_L3_s X10_putOnTape_B49
    rw [sh, if_neg (by rw [N_lt0 (by omega)]; exact id), F0_12, ob_some, s1, if_neg (by rw [N_lt0 (by omega)]; exact id), ob_some, F0_0, ob_some, aN_B (len := 900) rfl, ob_some, if_neg (by rw [N_le (by omega) (by omega)]; omega), ob_some, ob_some, sB_c (len := 900) rfl (by decide), N_tn (by omega), if_neg (fun z => z.elim (fun q => by rw [N_lt0 (by omega)] at q; exact q) (fun q => by omega)), ob_some, F0_12, ob_some, F0_p12, ob_some, vup_ne _ _ (show (0 : Nat) ≠ 1 by decide), s1, show nI (t + i) + 1 = nI (t + (i + 1)) from N_add (t + i) 1]
    rw [show nI (24 - 8 * i) + -8 = iI (24 - 8 * ((i + 1 : Nat) : Int)) by rw [nI_iI, show (-8 : Int32) = iI (-8) from rfl, Z_add]; exact congrArg iI (by omega)]
    refine ih _ (fun y hy => by rw [vup_ne _ _ (by omega), vup_ne _ _ (by omega)]; exact f1 y hy) (fun f hf => by rw [vup_at, upd_ne hf]; exact g1 f hf) (by rw [vup_at, upd_at]) (fun i' hi' => by rw [vup_ne _ _ (by omega), vup_at, upd_ne (by omega)]; exact o1 i' hi') fun q hq => ?_
    rw [vup_ne _ _ (by omega), vup_at]
    by_cases e : q = i
    · subst e; rw [upd_at, byteL]; rfl
    · rw [upd_ne (by omega)]; exact b1 q (by omega)
  · intro f c1 f1 g1 s1 o1 b1
    refine ⟨c1, ?_, f1, g1, s1, o1, b1⟩
    unfold X10_putOnTape_L3_s
    rw [if_pos (by decide)]
def sel (a b d e f : Int32) (k : Nat) : Int32 := if k < 4 then a else if k < 8 then b else if k < 12 then d else if k < 16 then e else f
theorem m_feedL {t : Nat} (ht : t + 20 ≤ 900) (e : m 75 2 = nI t) (a b d g h : Int32) : ∃ m', X11_feed_L23 5000 75 a b d g h 0 (enc c j w m n) = some (nI (t + 20), enc c j w m' n) ∧ (∀ y, y ≠ 75 → y ≠ 76 → m' y = m y) ∧ (∀ f, f ≠ 2 → m' 75 f = m 75 f) ∧ m' 75 2 = nI (t + 20) ∧ (∀ i, i < t → m' 76 i = m 76 i) ∧ ∀ k, k < 20 → m' 76 (t + k) = bt (sel a b d g h k) (24 - 8 * (k % 4)) := by
  refine loop_up (z := fun _ _ _ _ _ _ _ _ => none) (s := X11_feed_L23_s) 20 (fun k f => ∀ m1 : Nat → Nat → Int32, (∀ y, y ≠ 75 → y ≠ 76 → m1 y = m y) → (∀ f, f ≠ 2 → m1 75 f = m 75 f) → m1 75 2 = nI (t + k) → (∀ i, i < t → m1 76 i = m 76 i) → (∀ q, q < k → m1 76 (t + q) = bt (sel a b d g h q) (24 - 8 * (q % 4))) → ∃ m', f 75 a b d g h (nI k) (enc c j w m1 n) = some (nI (t + 20), enc c j w m' n) ∧ (∀ y, y ≠ 75 → y ≠ 76 → m' y = m y) ∧ (∀ f, f ≠ 2 → m' 75 f = m 75 f) ∧ m' 75 2 = nI (t + 20) ∧ (∀ i, i < t → m' 76 i = m 76 i) ∧ ∀ k, k < 20 → m' 76 (t + k) = bt (sel a b d g h k) (24 - 8 * (k % 4))) ?_ ?_ 5000 0 (Nat.zero_le _) (by omega) m (fun _ _ _ => rfl) (fun _ _ => rfl) e (fun _ _ => rfl) (fun q h => absurd h (Nat.not_lt_zero _))
  · intro k f hk ih m1 f1 g1 s1 o1 b1
    have B : ∃ m', X11_feed_B76 f 75 a b d g h (nI k) (sel a b d g h k) (enc c j w m1 n) = some (nI (t + 20), enc c j w m' n) ∧ (∀ y, y ≠ 75 → y ≠ 76 → m' y = m y) ∧ (∀ f, f ≠ 2 → m' 75 f = m 75 f) ∧ m' 75 2 = nI (t + 20) ∧ (∀ i, i < t → m' 76 i = m 76 i) ∧ ∀ k, k < 20 → m' 76 (t + k) = bt (sel a b d g h k) (24 - 8 * (k % 4)) := by
      unfold X11_feed_B76
      rw [R75_1, ob_some, I75_2, ob_some, s1, show nI k - nI k / 4 * 4 = nI (k % 4) from N_mod (b := 4) (by omega) (by omega), show (8 : Int32) * nI (k % 4) = nI (8 * (k % 4)) from N_mul 8 _, show (24 : Int32) - nI (8 * (k % 4)) = nI (24 - 8 * (k % 4)) from N_sub (a := 24) (by omega), S76 (by omega), ob_some, I75_2, ob_some, P75_2, ob_some, vup_ne _ _ (show (75 : Nat) ≠ 76 by decide), s1, show nI (t + k) + 1 = nI (t + (k + 1)) from N_add (t + k) 1, show nI k + 1 = nI (k + 1) from N_add k 1]
      refine ih _ (fun y h1 h2 => by rw [vup_ne _ _ h1, vup_ne _ _ h2]; exact f1 y h1 h2) (fun f hf => by rw [vup_at, upd_ne hf]; exact g1 f hf) (by rw [vup_at, upd_at]) (fun i hi => by rw [vup_ne _ _ (by omega), vup_at, upd_ne (by omega)]; exact o1 i hi) fun q hq => ?_
      rw [vup_ne _ _ (by omega), vup_at]
      by_cases e : q = k
      · subst e; rw [upd_at]; rfl
      · rw [upd_ne (by omega)]; exact b1 q (by omega)
    unfold X11_feed_L23_s
    rw [show (20 : Int32) = nI 20 from rfl, show (4 : Int32) = nI 4 from rfl, show (8 : Int32) = nI 8 from rfl, show (12 : Int32) = nI 12 from rfl, show (16 : Int32) = nI 16 from rfl, if_neg (by rw [N_le (by omega) (by omega)]; omega)]
    unfold sel at B
    by_cases h4 : k < 4
    · rw [if_neg (by rw [N_le (by omega) (by omega)]; omega)]; rw [if_pos h4] at B; exact B
    · rw [if_pos (by rw [N_le (by omega) (by omega)]; omega)]
      rw [if_neg h4] at B
      by_cases h8 : k < 8
      · rw [if_neg (by rw [N_le (by omega) (by omega)]; omega)]; rw [if_pos h8] at B; exact B
      · rw [if_pos (by rw [N_le (by omega) (by omega)]; omega)]
        rw [if_neg h8] at B
        by_cases h12 : k < 12
        · rw [if_neg (by rw [N_le (by omega) (by omega)]; omega)]; rw [if_pos h12] at B; exact B
        · rw [if_pos (by rw [N_le (by omega) (by omega)]; omega)]
          rw [if_neg h12] at B
          by_cases h16 : k < 16
          · rw [if_neg (by rw [N_le (by omega) (by omega)]; omega)]; rw [if_pos h16] at B; exact B
          · rw [if_pos (by rw [N_le (by omega) (by omega)]; omega)]
            rw [if_neg h16] at B; exact B
  · intro f m1 f1 g1 s1 o1 b1
    refine ⟨m1, ?_, f1, g1, s1, o1, b1⟩
    unfold X11_feed_L23_s
    rw [if_pos (by decide), I75_2, ob_some, s1]
theorem k_feed (I : INV c w m) (a b d g h : Int32) : CALL (X10_feed 0 a b d g h) (X11_feed 75 a b d g h) c j w m n := by
  obtain ⟨⟨b1, b2, ⟨t, t1, t2, t3, t4⟩, b4, b5, b6⟩, hr⟩ := id I
  have e20 : nI t + 20 = nI (t + 20) := N_add t 20
  by_cases e : t + 20 ≤ 900
  · obtain ⟨c1, d1, f1, g1, s1, o1, q1⟩ := c_put4 (c := c) (j := j) (w := w) (m := m) (n := n) (t := t) (by omega) t2 a
    obtain ⟨c2, d2, f2, g2, s2, o2, q2⟩ := c_put4 (c := c1) (j := j) (w := w) (m := m) (n := n) (t := t + 4) (by omega) s1 b
    obtain ⟨c3, d3, f3, g3, s3, o3, q3⟩ := c_put4 (c := c2) (j := j) (w := w) (m := m) (n := n) (t := t + 4 + 4) (by omega) s2 d
    obtain ⟨c4, d4, f4, g4, s4, o4, q4⟩ := c_put4 (c := c3) (j := j) (w := w) (m := m) (n := n) (t := t + 4 + 4 + 4) (by omega) s3 g
    obtain ⟨c5, d5, f5, g5, s5, o5, q5⟩ := c_put4 (c := c4) (j := j) (w := w) (m := m) (n := n) (t := t + 4 + 4 + 4 + 4) (by omega) s4 h
    obtain ⟨m1, e1, h1, h2, h3, h4, h5⟩ := m_feedL (c := c5) (j := j) (w := w) (m := th0 m 0) (n := n) (t := t) e (by rw [th0_f (by omega)]; exact t3) a b d g h
    have fc : ∀ y, 1 < y → c5 y = c y := fun y hy => by rw [f5 y hy, f4 y hy, f3 y hy, f2 y hy, f1 y hy]
    have gc : ∀ f, f ≠ 12 → c5 0 f = c 0 f := fun f hf => by rw [g5 f hf, g4 f hf, g3 f hf, g2 f hf, g1 f hf]
    have hm : ∀ y, y ≠ 75 → y ≠ 76 → m1 y = m y := fun y y1 y2 => by rw [h1 y y1 y2, th0_o y1]
    have hf : ∀ f, f ≠ 0 → f ≠ 2 → m1 75 f = m 75 f := fun f f0 f2 => by rw [h2 f f2, th0_f f0]
    have tape : ∀ i, i < t + 20 → c5 1 i &&& 255 = m1 76 i := by
      intro i hi
      by_cases h0 : i < t
      · rw [o5 i (by omega), o4 i (by omega), o3 i (by omega), o2 i (by omega), o1 i (by omega), h4 i h0, th0_o (by omega)]; exact t4 i h0
      · have r := h5 (i - t) (by omega)
        rw [show t + (i - t) = i by omega] at r
        rw [r]
        unfold sel
        by_cases x1 : i - t < 4
        · have z := q1 (i - t) (by omega)
          rw [show t + (i - t) = i by omega] at z
          rw [o5 i (by omega), o4 i (by omega), o3 i (by omega), o2 i (by omega), z, if_pos x1, Nat.mod_eq_of_lt x1]
        · rw [if_neg x1]
          by_cases x2 : i - t < 8
          · have z := q2 (i - (t + 4)) (by omega)
            rw [show t + 4 + (i - (t + 4)) = i by omega] at z
            rw [o5 i (by omega), o4 i (by omega), o3 i (by omega), z, if_pos x2, show (i - t) % 4 = i - (t + 4) by omega]
          · rw [if_neg x2]
            by_cases x3 : i - t < 12
            · have z := q3 (i - (t + 4 + 4)) (by omega)
              rw [show t + 4 + 4 + (i - (t + 4 + 4)) = i by omega] at z
              rw [o5 i (by omega), o4 i (by omega), z, if_pos x3, show (i - t) % 4 = i - (t + 4 + 4) by omega]
            · rw [if_neg x3]
              by_cases x4 : i - t < 16
              · have z := q4 (i - (t + 4 + 4 + 4)) (by omega)
                rw [show t + 4 + 4 + 4 + (i - (t + 4 + 4 + 4)) = i by omega] at z
                rw [o5 i (by omega), z, if_pos x4, show (i - t) % 4 = i - (t + 4 + 4 + 4) by omega]
              · have z := q5 (i - (t + 4 + 4 + 4 + 4)) (by omega)
                rw [show t + 4 + 4 + 4 + 4 + (i - (t + 4 + 4 + 4 + 4)) = i by omega] at z
                rw [z, if_neg x4, show (i - t) % 4 = i - (t + 4 + 4 + 4 + 4) by omega]
    refine ⟨nI (t + 20), c5, j, w, m1, n, ?_, ?_, ⟨b1, b2, ⟨t + 20, e, s5, h3, tape⟩, ?_, ?_, ?_⟩, ?_⟩
    · unfold X10_feed
      rw [F0_12, ob_some, t2, e20, show (900 : Int32) = nI 900 from rfl, if_pos (by rw [N_le (by omega) (by omega)]; exact e), cVv0, d1, ob_some, cVv0, d2, ob_some, cVv0, d3, ob_some, cVv0, d4, ob_some, cVv0, d5, ob_some, F0_12, ob_some, s5]
    · unfold X11_feed
      rw [P75_0, ob_some, show va_up m 75 (upd (m 75) 0 0) = th0 m 0 from rfl, I75_2, ob_some, th0_f (by omega), t3, e20, show (900 : Int32) = nI 900 from rfl, if_pos (by rw [N_le (by omega) (by omega)]; exact e), e1]
    · rw [gc 14 (by omega), hf 11 (by omega) (by omega)]; exact b4
    · rw [fc 32 (by omega), hf 9 (by omega) (by omega)]; exact b5
    · rw [gc 14 (by omega), fc 32 (by omega), hf 10 (by omega) (by omega)]; exact b6
    · rw [gc 11 (by omega), hf 14 (by omega) (by omega)]
      have hw : w 0 = 2 ∨ w 0 = 17 := by rcases b1 with q | q <;> omega
      rcases hr with ⟨r1, r2, n1, n2, n3, n4, n5, n6, n7, l, l1, l2⟩ | ⟨r1, r2, V, K, hC, hM, hA, hI⟩
      · refine Or.inl ⟨r1, r2, fun t ht => ?_, ?_, ?_, ?_, ?_, ?_, ?_, l, l1, ?_⟩
        · rw [fc _ (by omega)]; exact n1 t ht
        · rw [fc _ (by omega)]; exact n2
        · rw [fc _ (by omega)]; exact n3
        · rw [gc 13 (by omega)]; exact n4
        · rw [hf 23 (by omega) (by omega)]; exact n5
        · rw [fc 56 (by omega)]; exact n6
        · rw [hf 22 (by omega) (by omega)]; exact n7
        · rw [fc 56 (by omega)]; exact l2
      · exact Or.inr ⟨r1, r2, V, K, hC.q fun y p q => fc y (by omega), ⟨hM.1, hM.2.1, hM.2.2.1.fr (hm 78 (by omega) (by omega)), hM.2.2.2.1.fr (hm 80 (by omega) (by omega)), hM.2.2.2.2.fr (hm 82 (by omega) (by omega))⟩, hA.q (fc 56 (by omega)) (fc 58 (by omega)) (hf 22 (by omega) (by omega)) (hm 83 (by omega) (by omega)), hI.q (gc 13 (by omega)) (fun y p q => fc y (by omega)) (hf 23 (by omega) (by omega)) (hm 84 (by omega) (by omega))⟩
  · refine ⟨-1, c, j, w, th0 m 0, n, ?_, ?_, I.th 0⟩
    · unfold X10_feed
      rw [F0_12, ob_some, t2, e20, show (900 : Int32) = nI 900 from rfl, if_neg (by rw [N_le (by omega) (by omega)]; exact e)]
    · unfold X11_feed
      rw [P75_0, ob_some, show va_up m 75 (upd (m 75) 0 0) = th0 m 0 from rfl, I75_2, ob_some, th0_f (by omega), t3, e20, show (900 : Int32) = nI 900 from rfl, if_neg (by rw [N_le (by omega) (by omega)]; exact e)]
end
