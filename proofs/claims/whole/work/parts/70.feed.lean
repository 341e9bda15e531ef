/-! the calls: undoing, images, the tape -/
theorem hi8 : ∀ i : Nat, i < 32 → ¬ i < 8 → ((255 : Int32).toBitVec).getLsbD i = false := by decide
theorem byteL (z : Int32) : vp_nar .byte (z.toInt8.toInt32) &&& 255 = z &&& 255 := by
  show (z.toInt8.toInt32).toInt8.toInt32 &&& 255 = z &&& 255
  apply Int32.toBitVec_inj.mp
  rw [Int32.toBitVec_and, Int32.toBitVec_and, Int8.toBitVec_toInt32, Int32.toBitVec_toInt8, Int8.toBitVec_toInt32, Int32.toBitVec_toInt8]
  apply BitVec.eq_of_getLsbD_eq
  intro i hi
  rw [BitVec.getLsbD_and, BitVec.getLsbD_and]
  by_cases h : i < 8
  · congr 1
    rw [BitVec.getLsbD_signExtend, BitVec.getLsbD_signExtend, BitVec.getLsbD_signExtend, BitVec.getLsbD_signExtend]
    simp [h, hi]
  · rw [hi8 i hi h, Bool.and_false, Bool.and_false]
section
variable {c : Nat → Nat → Int32} {j : Nat → Nat → Int64} {w : Nat → Nat} {m : Nat → Nat → Int32} {n : Nat → Nat → Int64} {v : Nat} {V K : Nat → Nat → Nat}
theorem c_takeBack (h : CN c w v V K) {l u k col x : Nat} (hl : l < 16) (hu : u ≤ 16) (hu1 : 1 ≤ u) (e1 : c 56 1 = nI l) (e2 : c 56 2 = nI u) (hk : k < V 20 2) (hc : col < 3) (r4 : c 58 ((l + 15) % 16 * 3) = nI k) (r5 : c 58 ((l + 15) % 16 * 3 + 1) = nI col) (r6 : c 58 ((l + 15) % 16 * 3 + 2) = nI x) : ∃ c', X0_takeBack 56 35 (enc c j w m n) = some (enc c' j w m n) ∧ (∀ y, y ≠ 56 → y ≠ 37 → c' y = c y) ∧ c' 56 1 = nI ((l + 15) % 16) ∧ c' 56 2 = nI (u - 1) ∧ RK c' 35 V (KP K k col x) (V 1) := by
  obtain ⟨hv, hw, g, hV, gk, hK, h2⟩ := h
  have g12 := g.1.2.2.1
  generalize h1 : va_up c 56 (upd (c 56) 1 (nI ((l + 15) % 16))) = c1
  generalize h2' : va_up c1 56 (upd (c1 56) 2 (nI (u - 1))) = c2
  have o1 : ∀ y, y ≠ 56 → c1 y = c y := fun y hy => by rw [← h1]; exact vup_ne _ _ hy
  have o2 : ∀ y, y ≠ 56 → c2 y = c y := fun y hy => by rw [← h2', vup_ne _ _ hy]; exact o1 y hy
  have l2 : c2 56 1 = nI ((l + 15) % 16) := by rw [← h2', vup_at, upd_ne (by omega), ← h1, vup_at, upd_at]
  have hK2 : RK c2 35 V K (V 1) := hK.fr (o2 _ (by omega)) (o2 _ (by omega))
  refine ⟨va_up c2 37 (upd (c2 37) (k * 3 + col) (nI x)), ?_, fun y y1 y3 => by rw [vup_ne _ _ y3, o2 y y1], by rw [vup_ne _ _ (by omega)]; exact l2, by rw [vup_ne _ _ (by omega), ← h2', vup_at, upd_at], RK_putK hK2 hc⟩
  unfold X0_takeBack
  rw [F56_1, ob_some, e1, show nI l + 16 = nI (l + 16) from N_add l 16, show nI (l + 16) - 1 = nI (l + 15) by rw [nI_prd (by omega)]; rfl, show (16 : Int32) = nI 16 from rfl, N_mod (by omega) (by omega), F56_p1, ob_some, h1, F56_2, ob_some, show c1 56 2 = nI u by rw [← h1, vup_at, upd_ne (by omega)]; exact e2, max1 u (by omega), bd_eq, F56_p2, ob_some, h2', K_0 now_K, ob_some, F56_0, ob_some, F56_1, ob_some, l2, cV_eq (T_is made_T), T_cell0 made_T (by omega) (by omega), bd_eq, o2 58 (by omega), r4, F56_0, ob_some, F56_1, ob_some, l2, cV_eq (T_is made_T), T_cell1 made_T (by omega) (by omega), bd_eq, o2 58 (by omega), r5, F56_0, ob_some, F56_1, ob_some, l2, cV_eq (T_is made_T), T_cell2 made_T (by omega) (by omega), bd_eq, o2 58 (by omega), r6, cVv_eq (T_is (K_wats now_K)), T_putc (K_wats now_K) (by omega) hc, ob_some]
theorem k_undo (I : INV c w m) : CALL (X10_undo 0) (X11_undo 75) c j w m n := by
  have none' : c 56 2 = 0 → m 75 22 = 0 → CALL (X10_undo 0) (X11_undo 75) c j w m n := by
    intro q1 q2
    refine CALL.no I (x := 6) (r := 0) (by decide) ?_ ?_
    · unfold X10_undo X10_undo_B17
      rw [F0_4, ob_some, F56_2, ob_some, q1, if_pos rfl, cV0, c_ref1 (by decide), bd_eq, if_neg (by decide), rZ_0]
    · unfold X11_undo
      rw [cVv75, m_good, ob_some, I75_22, ob_some, gd_f (by omega) (by omega), q2, if_pos rfl, cV75, m_isNot, bd_eq, rZ_0]
  obtain ⟨B, ⟨u1, u2, -, -, -, -, -, n6, n7, -⟩ | ⟨u1, u2, V, K, hC, hM, ⟨l, u, H, a1, a2, a3, a4, a5, a6, a7⟩, hI⟩⟩ := id I
  · exact none' n6 n7
  · by_cases e0 : u = 0
    · exact none' (by rw [a4, e0]; rfl) (by rw [a5, e0]; rfl)
    · obtain ⟨hv, hw, g, hV, gk, hK, h2⟩ := id hC
      obtain ⟨q1, q2, k, col, old, r1, r2, r3, r4, r5, r6, r7⟩ := a7 (u - 1) (by omega)
      rw [show (l + 16 + (u - 1) - u) % 16 = (l + 15) % 16 by omega] at r4 r5 r6
      rw [show u - 1 + 1 = u by omega, a6] at r7
      have hC' := hC.rf 0
      obtain ⟨c', d1, f1, s1, s2, k1⟩ := c_takeBack (c := rf c 0) (j := j) (w := w) (m := m) (n := n) hC' a1 a2 (by omega) (by rw [rf_o (by omega)]; exact a3) (by rw [rf_o (by omega)]; exact a4) r1 r2 (by rw [rf_o (by omega)]; exact r4) (by rw [rf_o (by omega)]; exact r5) (by rw [rf_o (by omega)]; exact r6)
      rw [← r7] at k1
      generalize hm1 : va_up (gd m) 75 (upd (gd m 75) 22 (nI (u - 1))) = m1
      have o1 : ∀ y, y ≠ 75 → m1 y = m y := fun y hy => by rw [← hm1, vup_ne _ _ hy, gd_o hy]
      have p1 : ∀ f, f ≠ 0 → f ≠ 11 → f ≠ 22 → m1 75 f = m 75 f := fun f f0 f1 f2 => by rw [← hm1, vup_at, upd_ne f2, gd_f f0 f1]
      obtain ⟨m2, c2, f2, g2, -⟩ := m_copy (c := c') (j := j) (w := w) (m := m1) (n := n) (a := 83) (o := 25 * (u - 1)) (b := 82) (p := 0) (q := 25) (la := 400) (lb := 25) rfl rfl (by decide) (by decide) (by decide) (by decide) (by decide) (by omega) (by omega)
      have fc : ∀ y, y ≠ 0 → y ≠ 56 → y ≠ 37 → c' y = c y := fun y y0 y1 y3 => by rw [f1 y y1 y3, rf_o y0]
      have nz : ¬ nI u = 0 := by rw [show (0 : Int32) = nI 0 from rfl, N_inj (by omega) (by omega)]; exact e0
      refine ⟨1, c', j, w, m2, n, ?_, ?_, ?_⟩
      · unfold X10_undo X10_undo_B17
        rw [F0_4, ob_some, F56_2, ob_some, a4, if_neg nz, cV0, c_ref0, bd_eq, if_pos rfl, F0_4, ob_some, F0_2, ob_some, cVv_eq F56_is, d1, ob_some, rZ_1]
      · unfold X11_undo
        rw [cVv75, m_good, ob_some, I75_22, ob_some, ob_some, gd_f (by omega) (by omega), a5, if_neg nz, nI_prd (by omega), P75_22, ob_some, hm1, R75_20, ob_some, I75_22, ob_some, show m1 75 22 = nI (u - 1) by rw [← hm1, vup_at, upd_at], R75_19, ob_some, show (25 : Int32) * nI (u - 1) = nI (25 * (u - 1)) from N_mul 25 _, show X11_copy 83 (nI (25 * (u - 1))) 82 0 25 (enc c' j w m1 n) = _ from c2, ob_some, rZ_1]
      · refine I.act u1 u2 (fun y p q => fc y (by omega) (by omega) (by omega)) (fun f hf => by rw [f1 0 (by omega) (by omega), rf_f (by omega)]) (fun y p q => by rw [f2 y (by omega), o1 y (by omega)]) (fun f p q r => by rw [f2 75 (by omega), p1 f (by omega) r (by omega)]) (by rw [f1 0 (by omega) (by omega), rf_t]) (by rw [f2 75 (by omega), ← hm1, vup_at, upd_ne (by omega), gd_t]) (K := H (u - 1)) ⟨⟨hv, hw, g, hV.fr hv fun y p q => fc y (by omega) (by omega) (by omega), q1, k1, by rw [fc 35 (by omega) (by omega) (by omega)]; exact h2⟩, ⟨g, q1, hM.2.2.1.fr (by rw [f2 78 (by omega), o1 78 (by omega)]), hM.2.2.2.1.fr (by rw [f2 80 (by omega), o1 80 (by omega)]), MK_cells g q2 fun i hi => ?_⟩, ⟨(l + 15) % 16, u - 1, H, by omega, by omega, s1, s2, by rw [f2 75 (by omega), ← hm1, vup_at, upd_at], rfl, fun i hi => ?_⟩, hI.q (by rw [f1 0 (by omega) (by omega), rf_f (by omega)]) (fun y p q => fc y (by omega) (by omega) (by omega)) (by rw [f2 75 (by omega), p1 23 (by omega) (by omega) (by omega)]) (by rw [f2 84 (by omega), o1 84 (by omega)])⟩
        · rw [g2 i hi, o1 83 (by omega)]
        · obtain ⟨w1, w2, k', col', old', x1, x2, x3, x4, x5, x6, x7⟩ := a7 i (by omega)
          rw [show ((l + 15) % 16 + 16 + i - (u - 1)) % 16 = (l + 16 + i - u) % 16 by omega]
          refine ⟨w1, w2.fr (by rw [f2 83 (by omega), o1 83 (by omega)]), k', col', old', x1, x2, x3, ?_, ?_, ?_, x7⟩
          · rw [fc 58 (by omega) (by omega) (by omega)]; exact x4
          · rw [fc 58 (by omega) (by omega) (by omega)]; exact x5
          · rw [fc 58 (by omega) (by omega) (by omega)]; exact x6
theorem c_imageOf1 {i : Nat} (hi : i < 3) : X10_imageOf 0 (nI i) (enc c j w m n) = some (some (41 + 5 * i), enc c j w m n) := by
  unfold X10_imageOf
  rw [if_neg (by rw [N_lt0 (by omega)]; exact id), F0_3, ob_some, aN_R (len := 3) rfl, ob_some, if_neg (by rw [N_le (by omega) (by omega)]; omega), ob_some, aR_c (len := 3) rfl, N_tn (by omega), if_neg (fun z => z.elim (fun q => by rw [N_lt0 (by omega)] at q; exact q) (fun q => by omega)), if_pos hi, ob_some]
theorem c_imageOf0 {x : Int32} (hx : x < 0 ∨ (¬ x < 0 ∧ nI 3 ≤ x)) : X10_imageOf 0 x (enc c j w m n) = some (none, enc c j w m n) := by
  unfold X10_imageOf X10_imageOf_B22
  rcases hx with q | ⟨q1, q2⟩
  · rw [if_pos q]
  · rw [if_neg q1, F0_3, ob_some, aN_R (len := 3) rfl, ob_some, if_pos q2]
theorem img_K {i : Nat} (hi : i < 3) : isK (41 + 5 * i) := by
  match i, hi with
  | 0, _ => exact Or.inr (Or.inl rfl)
  | 1, _ => exact Or.inr (Or.inr (Or.inl rfl))
  | 2, _ => exact Or.inr (Or.inr (Or.inr (Or.inl rfl)))
  | i + 3, z => omega
theorem k_image (I : INV c w m) : CALL (X10_image 0) (X11_image 75) c j w m n := by
  obtain ⟨B, ⟨u1, u2, -, -, -, n4, -⟩ | ⟨u1, u2, V, K, hC, hM, hA, ⟨im, J, i1, i2, i3, i4⟩⟩⟩ := id I
  · refine CALL.no I (x := 1) (r := -1) (by decide) ?_ ?_
    · unfold X10_image
      rw [F0_13, ob_some, n4, cV0, show X10_imageOf 0 0 (enc c j w m n) = _ from c_imageOf1 (i := 0) (by omega), bd_eq]
      show ((gI (enc c j w m n) 0 10 11).bind _) = _
      unfold X10_image_B30
      rw [F0_11, ob_some, u1, if_pos rfl, cV0, c_ref1 (by decide), bd_eq, if_neg (by decide)]
    · unfold X11_image
      rw [cVv75, m_good, ob_some, I75_14, ob_some, gd_14, u2, if_pos rfl, cV75, m_no, bd_eq]
  · by_cases e3 : im = 3
    · refine CALL.no I (x := 3) (r := -1) (by decide) ?_ ?_
      · unfold X10_image
        rw [F0_13, ob_some, i2, e3, cV0, c_imageOf0 (Or.inr ⟨by decide, by decide⟩), bd_eq]
        show ((gI (enc c j w m n) 0 10 11).bind _) = _
        unfold X10_image_B30n
        rw [F0_11, ob_some, u1, if_neg (by decide), cV0, c_ref1 (by decide), bd_eq, if_neg (by decide)]
      · unfold X11_image
        rw [cVv75, m_good, ob_some, I75_14, ob_some, gd_14, u2, if_neg (by decide), I75_23, ob_some, gd_f (by omega) (by omega), i3, e3, if_pos (by rfl), cV75, m_no, bd_eq]
    · have him : im < 3 := by omega
      obtain ⟨hv, hw, g, hV, gk, hK, h2⟩ := id hC
      obtain ⟨c1, d1, f1, g1, g2, g3⟩ := c_copyK (c := rf c 0) (j := j) (w := w) (m := m) (n := n) (img_K him) now_K (by omega)
      have c13 : c1 0 13 = nI im := by rw [f1 0 (by omega), rf_f (by omega)]; exact i2
      generalize hc2 : va_up c1 0 (upd (c1 0) 13 (nI (im + 1))) = c2
      have fc : ∀ y, y ≠ 0 → (y < 41 + 5 * im ∨ 41 + 5 * im + 4 < y) → c2 y = c y := fun y y0 y1 => by rw [← hc2, vup_ne _ _ y0, f1 y y1, rf_o y0]
      have fc2 : ∀ y, y ≠ 0 → c2 y = c1 y := fun y y0 => by rw [← hc2, vup_ne _ _ y0]
      have fc0 : ∀ f, f ≠ 13 → f ≠ 14 → c2 0 f = c 0 f := fun f h3 h4 => by rw [← hc2, vup_at, upd_ne h3, f1 0 (by omega), rf_f h4]
      obtain ⟨m1, e1, o1, p1, p2⟩ := m_copy (c := c2) (j := j) (w := w) (m := gd m) (n := n) (a := 82) (o := 0) (b := 84) (p := 25 * im) (q := 25) (la := 25) (lb := 75) rfl rfl (by decide) (by decide) (by decide) (by decide) (by decide) (by omega) (by omega)
      have m23 : m1 75 23 = nI im := by rw [o1 75 (by omega), gd_f (by omega) (by omega)]; exact i3
      generalize hm2 : va_up m1 75 (upd (m1 75) 23 (nI (im + 1))) = m2
      have gm : ∀ y, y ≠ 75 → y ≠ 84 → m2 y = m y := fun y y0 y1 => by rw [← hm2, vup_ne _ _ y0, o1 y y1, gd_o y0]
      have gf : ∀ f, f ≠ 0 → f ≠ 11 → f ≠ 23 → m2 75 f = m 75 f := fun f f0 f1 f2 => by rw [← hm2, vup_at, upd_ne f2, o1 75 (by omega), gd_f f0 f1]
      have g84 : ∀ i, m2 84 i = m1 84 i := fun i => by rw [← hm2, vup_ne _ _ (by omega)]
      refine ⟨nI im, c2, j, w, m2, n, ?_, ?_, ?_⟩
      · unfold X10_image
        rw [F0_13, ob_some, i2, cV0, c_imageOf1 him, bd_eq]
        show ((gI (enc c j w m n) 0 10 11).bind _) = _
        unfold X10_image_B30
        rw [F0_11, ob_some, u1, if_neg (by decide), cV0, c_ref0, bd_eq, if_pos rfl, F0_2, ob_some, cVv_eq (K_is (img_K him)), d1, ob_some, F0_13, ob_some, c13, show nI im + 1 = nI (im + 1) from N_add im 1, F0_p13, ob_some, hc2, F0_13, ob_some, show c2 0 13 = nI (im + 1) by rw [← hc2, vup_at, upd_at], nI_prd (by omega)]
        rfl
      · unfold X11_image
        rw [cVv75, m_good, ob_some, I75_14, ob_some, gd_14, u2, if_neg (by decide), I75_23, ob_some, gd_f (by omega) (by omega), i3, if_neg (by rw [show (3 : Int32) = nI 3 from rfl, N_inj (by omega) (by omega)]; exact e3), R75_19, ob_some, R75_21, ob_some, ob_some, show (25 : Int32) * nI im = nI (25 * im) from N_mul 25 im, show X11_copy 82 0 84 (nI (25 * im)) 25 (enc c2 j w (gd m) n) = _ from e1, ob_some, I75_23, ob_some, m23, show nI im + 1 = nI (im + 1) from N_add im 1, P75_23, ob_some, hm2, I75_23, ob_some, show m2 75 23 = nI (im + 1) by rw [← hm2, vup_at, upd_at], nI_prd (by omega)]
        rfl
      · refine I.act u1 u2 (fun y p q => fc y (by omega) (by omega)) (fun f hf => fc0 f (by omega) (by omega)) (fun y p q => gm y (by omega) (by omega)) (fun f p q r => gf f (by omega) r (by omega)) (by rw [← hc2, vup_at, upd_ne (by omega), f1 0 (by omega), rf_t]) (by rw [← hm2, vup_at, upd_ne (by omega), o1 75 (by omega), gd_t]) (K := K) ⟨hC.q fun y p q => fc y (by omega) (by omega), ⟨g, gk, hM.2.2.1.fr (gm 78 (by omega) (by omega)), hM.2.2.2.1.fr (gm 80 (by omega) (by omega)), hM.2.2.2.2.fr (gm 82 (by omega) (by omega))⟩, hA.q (fc 56 (by omega) (by omega)) (fc 58 (by omega) (by omega)) (gf 22 (by omega) (by omega) (by omega)) (gm 83 (by omega) (by omega)), ⟨im + 1, fun i => if i = im then K else J i, by omega, by rw [← hc2, vup_at, upd_at], by rw [← hm2, vup_at, upd_at], fun i hi => ?_⟩⟩
        by_cases e : i = im
        · subst e
          simp only [if_true]
          refine ⟨gk, RK_cells g hK (fun q hq => ?_) (fun q hq => ?_), ?_, MK_cells g hM.2.2.2.2 fun q hq => ?_⟩
          · rw [fc2 _ (by omega), g1 q hq, rf_o (by omega)]
          · rw [fc2 _ (by omega), g2 q hq, rf_o (by omega)]
          · rw [fc2 _ (by omega), g3, rf_o (by omega)]; exact h2
          · rw [g84, p1 q hq, gd_o (by omega)]
        · simp only [if_neg e]
          obtain ⟨w1, w2, w3, w4⟩ := i4 i (by omega)
          refine ⟨w1, w2.fr (fc _ (by omega) (by omega)) (fc _ (by omega) (by omega)), by rw [fc _ (by omega) (by omega)]; exact w3, MK_cells g w4 fun q hq => ?_⟩
          rw [g84, p2 _ (by omega), gd_o (by omega)]
theorem k_back (I : INV c w m) (x : Int32) : CALL (X10_back 0 x) (X11_back 75 x) c j w m n := by
  have none' : ∀ im : Nat, im ≤ 3 → c 0 13 = nI im → m 75 23 = nI im → (x < 0 ∨ (¬ x < 0 ∧ nI im ≤ x)) → CALL (X10_back 0 x) (X11_back 75 x) c j w m n := by
    intro im hi q1 q2 hx
    refine CALL.no I (x := 1) (r := 0) (by decide) ?_ ?_
    · have hb : X10_back_B17 0 none (enc c j w m n) = some (0, enc (rf c 1) j w m n) := by
        show X10_back_B28n 0 0 1 (enc c j w m n) = _
        unfold X10_back_B28n
        rw [cV0, c_ref1 (by decide), bd_eq, if_neg (by decide), rZ_0]
      unfold X10_back
      rw [F0_13, ob_some, q1]
      rcases hx with q | ⟨h1, h2⟩
      · rw [if_neg (fun z => by
          obtain ⟨k, hk, ek⟩ : ∃ k, k < 2147483648 ∧ x = nI k := n_pos (fun y => by
            have := Int32.lt_of_le_of_lt z y
            rw [N_lt0 (by omega)] at this; exact this)
          rw [ek, N_lt0 hk] at q; exact q), cV0, c_imageOf0 (Or.inl q), bd_eq]
        exact hb
      · rw [if_pos h2]; exact hb
    · unfold X11_back
      rw [cVv75, m_good, ob_some, I75_23, ob_some, gd_f (by omega) (by omega), q2, m_in, if_neg, bd_eq, if_pos rfl, cV75, m_isNot, bd_eq, rZ_0]
      rintro ⟨h1, h2⟩
      rcases hx with q | ⟨h3, h4⟩
      · exact h1 q
      · by_cases e0 : im = 0
        · subst e0
          obtain ⟨k, hk, rfl⟩ := n_pos h3
          exact h2 (by rw [show nI 0 - 1 = iI (-1) from rfl, nI_iI, Z_lt (by omega) (by omega) (by omega) (by omega)]; omega)
        · rw [nI_prd (by omega)] at h2
          rw [show im = im - 1 + 1 by omega, le_lt (by omega) h3] at h4
          exact h2 h4
  obtain ⟨B, ⟨u1, u2, -, -, -, n4, n5, -⟩ | ⟨u1, u2, V, K, hC, hM, ⟨l, u, H, a1, a2, a3, a4, a5, a6, a7⟩, ⟨im, J, i1, i2, i3, i4⟩⟩⟩ := id I
  · refine none' 0 (by omega) n4 n5 ?_
    by_cases q : x < 0
    · exact Or.inl q
    · exact Or.inr ⟨q, Int32.not_lt.mp q⟩
  · rcases n_dec x im (by omega) with ⟨i, hi, rfl⟩ | hx
    · obtain ⟨w1, w2, w3, w4⟩ := i4 i hi
      obtain ⟨hv, hw, g, hV, gk, hK, h2⟩ := id hC
      obtain ⟨c1, d1, f1, g1, g2, g3⟩ := c_copyK (c := rf c 0) (j := j) (w := w) (m := m) (n := n) now_K (img_K (show i < 3 by omega)) (by omega)
      generalize hc2 : va_up c1 56 (upd (c1 56) 2 0) = c2
      have fc1 : ∀ y, y ≠ 0 → (y < 35 ∨ 39 < y) → c1 y = c y := fun y y0 y1 => by rw [f1 y (by omega), rf_o y0]
      have fc : ∀ y, y ≠ 0 → y ≠ 56 → (y < 35 ∨ 39 < y) → c2 y = c y := fun y y0 y2 y1 => by rw [← hc2, vup_ne _ _ y2, fc1 y y0 y1]
      have fc0 : ∀ f, f ≠ 14 → c2 0 f = c 0 f := fun f h4 => by rw [← hc2, vup_ne _ _ (by omega), f1 0 (by omega), rf_f h4]
      have fk : ∀ y, y ≠ 56 → c2 y = c1 y := fun y y2 => by rw [← hc2, vup_ne _ _ y2]
      obtain ⟨m1, e1, o1, p1, p2⟩ := m_copy (c := c2) (j := j) (w := w) (m := gd m) (n := n) (a := 84) (o := 25 * i) (b := 82) (p := 0) (q := 25) (la := 75) (lb := 25) rfl rfl (by decide) (by decide) (by decide) (by decide) (by decide) (by omega) (by omega)
      generalize hm2 : va_up m1 75 (upd (m1 75) 22 0) = m2
      have gm : ∀ y, y ≠ 75 → y ≠ 82 → m2 y = m y := fun y y0 y1 => by rw [← hm2, vup_ne _ _ y0, o1 y y1, gd_o y0]
      have gf : ∀ f, f ≠ 0 → f ≠ 11 → f ≠ 22 → m2 75 f = m 75 f := fun f f0 f1 f2 => by rw [← hm2, vup_at, upd_ne f2, o1 75 (by omega), gd_f f0 f1]
      refine ⟨1, c2, j, w, m2, n, ?_, ?_, ?_⟩
      · unfold X10_back
        rw [F0_13, ob_some, i2, if_neg (by rw [N_le (by omega) (by omega)]; omega), cV0, c_imageOf1 (by omega), bd_eq]
        show X10_back_B28 0 (41 + 5 * i) 0 0 (enc c j w m n) = _
        unfold X10_back_B28 X0_forget
        rw [cV0, c_ref0, bd_eq, if_pos rfl, F0_2, ob_some, cVv_eq (K_is now_K), d1, ob_some, F0_4, ob_some, cVv_eq F56_is, F56_p2, ob_some, ob_some, hc2, rZ_1]
      · unfold X11_back
        rw [cVv75, m_good, ob_some, I75_23, ob_some, gd_f (by omega) (by omega), i3, nI_prd (by omega), show X11_in (nI i) 0 (nI (im - 1)) (enc c2 j w (gd m) n) = _ from m_in1 (a := 0) (by omega) (by omega) (by omega) _, bd_eq, if_neg (by decide), R75_21, ob_some, R75_19, ob_some, show (25 : Int32) * nI i = nI (25 * i) from N_mul 25 i, show X11_copy 84 (nI (25 * i)) 82 0 25 (enc c2 j w (gd m) n) = _ from e1, ob_some, P75_22, ob_some, hm2, rZ_1]
      · refine I.act u1 u2 (fun y p q => fc y (by omega) (by omega) (by omega)) (fun f hf => fc0 f (by omega)) (fun y p q => gm y (by omega) (by omega)) (fun f p q r => gf f (by omega) r (by omega)) (by rw [← hc2, vup_ne _ _ (by omega), f1 0 (by omega), rf_t]) (by rw [← hm2, vup_at, upd_ne (by omega), o1 75 (by omega), gd_t]) (K := J i) ⟨⟨hv, hw, g, hV.fr hv fun y p q => fc y (by omega) (by omega) (by omega), w1, RK_cells g w2 (fun q hq => ?_) (fun q hq => ?_), ?_⟩, ⟨g, w1, hM.2.2.1.fr (gm 78 (by omega) (by omega)), hM.2.2.2.1.fr (gm 80 (by omega) (by omega)), MK_cells g w4 fun q hq => ?_⟩, ⟨l, 0, fun _ => J i, a1, by omega, ?_, ?_, ?_, rfl, fun q hq => absurd hq (Nat.not_lt_zero _)⟩, IM.q ⟨im, J, i1, i2, i3, i4⟩ (fc0 13 (by omega)) (fun y p q => fc y (by omega) (by omega) (by omega)) (gf 23 (by omega) (by omega) (by omega)) (gm 84 (by omega) (by omega))⟩
        · rw [fk _ (by omega), g1 q hq, rf_o (by omega)]
        · rw [fk _ (by omega), g2 q hq, rf_o (by omega)]
        · rw [fk _ (by omega), g3, rf_o (by omega)]; exact w3
        · rw [← hm2, vup_ne _ _ (by omega), p1 q hq, gd_o (by omega)]
        · rw [← hc2, vup_at, upd_ne (by omega), fc1 56 (by omega) (by omega)]; exact a3
        · rw [← hc2, vup_at, upd_at]; rfl
        · rw [← hm2, vup_at, upd_at]; rfl
    · exact none' im i1 i2 i3 hx
end
