/-! the calls: more questions -/
theorem tb_gd0 (m : Nat → Nat → Int32) : tb (gd m) 0 = gd m := by
  unfold tb gd
  rw [vup_at, vup_up]
  congr 1
  funext f
  unfold upd
  split <;> rfl
theorem frl {c c' : Nat → Nat → Int32} (h : ∀ y, y ≠ 60 → y ≠ 62 → c' y = c y) : fr c c' := fun y hy => h y (by omega) (by omega)
section
variable {c : Nat → Nat → Int32} {j : Nat → Nat → Int64} {w : Nat → Nat} {m : Nat → Nat → Int32} {n : Nat → Nat → Int64} {V K : Nat → Nat → Nat}
theorem k_at (I : INV c w m) (x y : Int32) : CALL (X10_at 0 x y) (X11_at 75 x y) c j w m n := by
  obtain ⟨B, ⟨u1, u2, -⟩ | ⟨u1, u2, V, K, hC, hM, -, -⟩⟩ := id I
  · refine CALL.no I (x := 1) (r := -1000000) (by decide) ?_ ?_
    · unfold X10_at
      rw [cV0, c_aftern (BS_w B) u1, bd_eq, cV0, c_ref1 (by decide), bd_eq, if_neg (by decide)]
    · unfold X11_at
      rw [cVv75, m_good, ob_some, cV75, m_numn (by rw [gd_14]; exact u2), bd_eq, P75_11, ob_some, I75_11, ob_some, show va_up (gd m) 75 (upd (gd m 75) 11 1) = tb (gd m) 1 from rfl, tb_t, if_neg (by decide)]
  · have g12 := hM.1.1.2.2.1
    rcases n_dec x (V 20 2 + 1) (by omega) with ⟨b, hb, rfl⟩ | hx
    · have hb : b ≤ V 20 2 := by omega
      have hC0 := hC
      have hC := hC.rf 0
      have hM := hM.gd
      obtain ⟨hv, hw, g, hV, gk, hK, h2⟩ := id hC
      obtain ⟨c1, d1, f1, s1, -⟩ := c_sailFor (c := rf c 0) (j := j) (w := w) (m := m) (n := n) (S := allS) hv hw g gk (GE1 g) hV now_K hK (RS_all g h2) hb
      obtain ⟨m1, e1, l1, r1⟩ := m_sailNow (c := c1) (j := j) (w := w) (m := gd m) (n := n) hM
      refine CALL.yes I (c' := c1) (m' := m1) (j' := j) (n' := n) (frl f1) l1.mf (r := if y = 0 then iI (pE V K (lNw V K) b) else iI (pN V K (lNw V K) b)) ?_ ?_
      · unfold X10_at
        rw [cV0, c_after1 hC0 rfl u1 hb, bd_eq, cV0, c_ref0, bd_eq, if_pos rfl, F0_5, ob_some, F0_2, ob_some, cV59, d1, bd_eq, F60_g (by omega), F60_g (by omega), ob_some, ob_some, s1.1, s1.2.1]
        split <;> rfl
      · unfold X11_at
        rw [cVv75, m_good, ob_some, cV75, m_num1 hM (by rw [gd_14]; exact u2) hb, bd_eq, P75_11, ob_some, I75_11, ob_some, show va_up (gd m) 75 (upd (gd m 75) 11 0) = tb (gd m) 0 from rfl, tb_gd0, gd_t, if_pos rfl, cVv75, e1, ob_some, R75_27, ob_some, M88 (by omega), ob_some, R75_28, ob_some, M89 (by omega), ob_some, (r1.2 b hb).1, (r1.2 b hb).2.1]
        split <;> rfl
    · have hM := hM.gd
      refine CALL.no I (x := 2) (r := -1000000) (by decide) ?_ ?_
      · unfold X10_at
        rw [cV0, c_after0 hC rfl u1 hx, bd_eq, cV0, c_ref1 (by decide), bd_eq, if_neg (by decide)]
      · unfold X11_at
        rw [cVv75, m_good, ob_some, cV75, m_num0 hM (by rw [gd_14]; exact u2) hx, bd_eq, P75_11, ob_some, I75_11, ob_some, show va_up (gd m) 75 (upd (gd m 75) 11 2) = tb (gd m) 2 from rfl, tb_t, if_neg (by decide)]
theorem k_thought (I : INV c w m) (x y : Int32) : CALL (X10_thought 0 x y) (X11_thought 75 x y) c j w m n := by
  obtain ⟨B, ⟨u1, u2, -⟩ | ⟨u1, u2, V, K, hC, hM, -, -⟩⟩ := id I
  · refine CALL.no I (x := 1) (r := -1000000) (by decide) ?_ ?_
    · unfold X10_thought
      rw [cV0, c_aftern (BS_w B) u1, bd_eq, cV0, c_ref1 (by decide), bd_eq, if_neg (by decide)]
    · unfold X11_thought
      rw [cVv75, m_good, ob_some, cV75, m_numn (by rw [gd_14]; exact u2), bd_eq, P75_11, ob_some, I75_11, ob_some, show va_up (gd m) 75 (upd (gd m 75) 11 1) = tb (gd m) 1 from rfl, tb_t, if_neg (by decide)]
  · have g12 := hM.1.1.2.2.1
    rcases n_dec x (V 20 2 + 1) (by omega) with ⟨b, hb, rfl⟩ | hx
    · have hb : b ≤ V 20 2 := by omega
      have hC0 := hC
      have hC := hC.rf 0
      have hM := hM.gd
      obtain ⟨hv, hw, g, hV, gk, hK, h2⟩ := id hC
      obtain ⟨c1, d1, f1, s1, -⟩ := c_sailFor (c := rf c 0) (j := j) (w := w) (m := m) (n := n) (S := allS) hv hw g gk (GE1 g) hV now_K hK (RS_all g h2) hb
      obtain ⟨m1, e1, l1, r1⟩ := m_sailNow (c := c1) (j := j) (w := w) (m := gd m) (n := n) hM
      refine CALL.yes I (c' := c1) (m' := m1) (j' := j) (n' := n) (frl f1) l1.mf (r := if y = 0 then iI (pTE V K b) else iI (pTN V K (lNw V K) allS b)) ?_ ?_
      · unfold X10_thought
        rw [cV0, c_after1 hC0 rfl u1 hb, bd_eq, cV0, c_ref0, bd_eq, if_pos rfl, F0_5, ob_some, F0_2, ob_some, cV59, d1, bd_eq, F60_g (by omega), F60_g (by omega), ob_some, ob_some, s1.2.2.1, s1.2.2.2]
        split <;> rfl
      · unfold X11_thought
        rw [cVv75, m_good, ob_some, cV75, m_num1 hM (by rw [gd_14]; exact u2) hb, bd_eq, P75_11, ob_some, I75_11, ob_some, show va_up (gd m) 75 (upd (gd m 75) 11 0) = tb (gd m) 0 from rfl, tb_gd0, gd_t, if_pos rfl, cVv75, e1, ob_some, R75_29, ob_some, M90 (by omega), ob_some, R75_30, ob_some, M91 (by omega), ob_some, (r1.2 b hb).2.2.1, (r1.2 b hb).2.2.2]
        split <;> rfl
    · have hM := hM.gd
      refine CALL.no I (x := 2) (r := -1000000) (by decide) ?_ ?_
      · unfold X10_thought
        rw [cV0, c_after0 hC rfl u1 hx, bd_eq, cV0, c_ref1 (by decide), bd_eq, if_neg (by decide)]
      · unfold X11_thought
        rw [cVv75, m_good, ob_some, cV75, m_num0 hM (by rw [gd_14]; exact u2) hx, bd_eq, P75_11, ob_some, I75_11, ob_some, show va_up (gd m) 75 (upd (gd m 75) 11 2) = tb (gd m) 2 from rfl, tb_t, if_neg (by decide)]
theorem k_mean (I : INV c w m) (x y : Int32) : CALL (X10_mean 0 x y) (X11_mean 75 x y) c j w m n := by
  obtain ⟨B, ⟨u1, u2, -⟩ | ⟨u1, u2, V, K, hC, hM, -, -⟩⟩ := id I
  · refine CALL.no I (x := 1) (r := -1) (by decide) ?_ ?_
    · unfold X10_mean
      rw [cV0, c_aftern (BS_w B) u1, bd_eq, cV0, c_ref1 (by decide), bd_eq, if_neg (by decide)]
    · unfold X11_mean
      rw [cVv75, m_good, ob_some, cV75, m_numn (by rw [gd_14]; exact u2), bd_eq, if_neg (by decide), cV75, m_numn (by rw [gd_14]; exact u2), bd_eq, cV75, m_no, bd_eq]
      rfl
  · have g12 := hM.1.1.2.2.1
    rcases n_dec x (V 20 2 + 1) (by omega) with ⟨b, hb, rfl⟩ | hx
    · have hb : b ≤ V 20 2 := by omega
      have hC0 := hC
      have hC := hC.rf 0
      have hM := hM.gd
      obtain ⟨hv, hw, g, hV, gk, hK, h2⟩ := id hC
      obtain ⟨c1, j1, d1, f1, -, p1, p2⟩ := c_mean (c := rf c 0) (j := j) (w := w) (m := m) (n := n) hC hb
      obtain ⟨m1, n1, e1, l1, -, a1, -, a3⟩ := m_tryC (c := c1) (j := j1) (w := w) (m := gd m) (n := n) hM (b := b) (much := 0) hb (by omega)
      rw [awS_eq g] at a1
      rw [esS_eq] at a3
      have hu := upM_le (K := K) g (lNw_le g gk) hb (noons_lt g)
      have hp := pow100 g.1.2.2.2.1
      have hp0 : 0 < 100 ^ V 20 3 := Nat.pow_pos (by omega)
      refine CALL.yes I (c' := c1) (m' := m1) (j' := j1) (n' := n1) f1 l1 (r := nJ ((if y = 0 then upM V K (lNw V K) b (2 ^ V 20 3) else 100 ^ V 20 3) / Nat.gcd (upM V K (lNw V K) b (2 ^ V 20 3)) (100 ^ V 20 3))) ?_ ?_
      · unfold X10_mean
        rw [cV0, c_after1 hC0 rfl u1 hb, bd_eq, cV0, c_ref0, bd_eq, if_pos rfl, F0_8, ob_some, F0_2, ob_some, cVv_eq F74_is, d1, ob_some, F0_8, ob_some, F74_1, ob_some, ob_some, F74_2, ob_some, p1, p2]
        split <;> rfl
      · unfold X11_mean
        rw [cVv75, m_good, ob_some, cV75, m_num1 hM (by rw [gd_14]; exact u2) hb, bd_eq, if_pos rfl, cVv75, show X11_tryClouds 75 (nI b) 0 (enc c1 j1 w (gd m) n) = _ from e1, ob_some, J75_43, ob_some, J75_41, ob_some, a1, a3, m_lowest _ (by omega) (by omega) hp0, bd_eq]
    · have hM := hM.gd
      refine CALL.no I (x := 2) (r := -1) (by decide) ?_ ?_
      · unfold X10_mean
        rw [cV0, c_after0 hC rfl u1 hx, bd_eq, cV0, c_ref1 (by decide), bd_eq, if_neg (by decide)]
      · unfold X11_mean
        rw [cVv75, m_good, ob_some, cV75, m_num0 hM (by rw [gd_14]; exact u2) hx, bd_eq, if_neg (by decide), cV75, m_num0 hM (by rw [gd_14]; exact u2) hx, bd_eq, cV75, m_no, bd_eq]
        rfl
theorem c_odds23 {x y z q s : Int32} (hq : q ≠ 0) : X10_odds_B23 0 x y z q s (enc c j w m n) = some (-1, enc (rf c q) j w m n) := by
  unfold X10_odds_B23 X10_odds_B40 X10_odds_B42
  rw [if_neg hq, cV0, c_ref1 hq, bd_eq, if_neg (by decide)]
theorem c_oddsR {x y z q : Int32} (hq : q ≠ 0) (h : X10_whyNotAfter 0 x (enc c j w m n) = some (q, enc c j w m n)) : X10_odds 0 x y z (enc c j w m n) = some (-1, enc (rf c q) j w m n) := by
  unfold X10_odds X10_odds_B22
  rw [cV0, h, bd_eq, c_odds23 hq, c_odds23 hq]
  split
  · rfl
  · split <;> rfl
theorem k_odds (I : INV c w m) (x y z : Int32) : CALL (X10_odds 0 x y z) (X11_odds 75 x y z) c j w m n := by
  obtain ⟨B, ⟨u1, u2, -⟩ | ⟨u1, u2, V, K, hC, hM, -, -⟩⟩ := id I
  · refine CALL.no I (x := 1) (r := -1) (by decide) (c_oddsR (by decide) (c_aftern (BS_w B) u1 x)) ?_
    unfold X11_odds X11_odds_B30
    rw [cVv75, m_good, ob_some, cV75, m_numn (by rw [gd_14]; exact u2), bd_eq, if_neg (by decide), if_neg (by decide), cV75, m_no, bd_eq]
    rfl
  · have g12 := hM.1.1.2.2.1
    rcases n_dec x (V 20 2 + 1) (by omega) with ⟨b, hb, rfl⟩ | hx
    · have hb : b ≤ V 20 2 := by omega
      have hC0 := hC
      have hC := hC.rf 0
      have hM := hM.gd
      obtain ⟨hv, hw, g, hV, gk, hK, h2⟩ := id hC
      rcases n_dec y 30001 (by omega) with ⟨much, hmu, rfl⟩ | hy
      · obtain ⟨c1, j1, d1, f1, -, p1, p2⟩ := c_odds (c := rf c 0) (j := j) (w := w) (m := m) (n := n) hC hb (much := much) (by omega)
        obtain ⟨m1, n1, e1, l1, -, a1, a2, -⟩ := m_tryC (c := c1) (j := j1) (w := w) (m := gd m) (n := n) hM (b := b) (much := much) hb (by omega)
        rw [awS_eq g] at a1
        rw [fwS_eq] at a2
        have hu := upO_le (K := K) (L := lNw V K) (b := b) (much := much) g (noons_lt g)
        have hp := pow100 g.1.2.2.2.1
        have hp0 : 0 < 100 ^ V 20 3 := Nat.pow_pos (by omega)
        refine CALL.yes I (c' := c1) (m' := m1) (j' := j1) (n' := n1) f1 l1 (r := nJ ((if z = 0 then upO V K (lNw V K) b much (2 ^ V 20 3) else 100 ^ V 20 3) / Nat.gcd (upO V K (lNw V K) b much (2 ^ V 20 3)) (100 ^ V 20 3))) ?_ ?_
        · unfold X10_odds X10_odds_B23 X10_odds_B40 X10_odds_B42
          rw [cV0, c_after1 hC0 rfl u1 hb, bd_eq, if_neg (by rw [N_lt0 (by omega)]; exact id), if_neg (by rw [show (30000 : Int32) = nI 30000 from rfl, N_lt (by omega) (by omega)]; omega), if_pos rfl, if_neg (by decide), cV0, c_ref0, bd_eq, if_pos rfl, F0_8, ob_some, F0_2, ob_some, cVv_eq F74_is, d1, ob_some, F0_8, ob_some, F74_1, ob_some, ob_some, F74_2, ob_some, p1, p2]
          split <;> rfl
        · unfold X11_odds X11_odds_B30
          rw [cVv75, m_good, ob_some, cV75, m_num1 hM (by rw [gd_14]; exact u2) hb, bd_eq, if_pos rfl, show X11_in (nI much) 0 30000 (enc c1 j1 w (gd m) n) = _ from m_in1 (a := 0) (b := 30000) (by omega) (by omega) (by omega) _, bd_eq, if_neg (by decide), if_pos rfl, cVv75, e1, ob_some, J75_42, ob_some, J75_41, ob_some, a1, a2, m_lowest _ (by omega) (by omega) hp0, bd_eq]
      · refine CALL.no I (x := 2) (r := -1) (by decide) ?_ ?_
        · unfold X10_odds X10_odds_B22 X10_odds_B23 X10_odds_B40 X10_odds_B42
          rw [cV0, c_after1 hC0 rfl u1 hb, bd_eq]
          rcases out_lt (by omega) hy with q | ⟨q1, q2⟩
          · rw [if_pos q, if_pos rfl, if_pos rfl, cV0, c_ref1 (by decide), bd_eq, if_neg (by decide)]
          · rw [if_neg q1, if_pos (show (30000 : Int32) < y from q2), if_pos rfl, if_pos rfl, cV0, c_ref1 (by decide), bd_eq, if_neg (by decide)]
        · unfold X11_odds X11_odds_B30
          rw [cVv75, m_good, ob_some, cV75, m_num1 hM (by rw [gd_14]; exact u2) hb, bd_eq, if_pos rfl, show X11_in y 0 30000 (enc (rf c 2) j w (gd m) n) = _ from m_in0 (b := 30000) (by omega) hy _, bd_eq, if_pos rfl, if_neg (by decide), cV75, m_no, bd_eq]
          rfl
    · have hM := hM.gd
      refine CALL.no I (x := 2) (r := -1) (by decide) (c_oddsR (by decide) (c_after0 hC rfl u1 hx)) ?_
      unfold X11_odds X11_odds_B30
      rw [cVv75, m_good, ob_some, cV75, m_num0 hM (by rw [gd_14]; exact u2) hx, bd_eq, if_neg (by decide), if_neg (by decide), cV75, m_no, bd_eq]
      rfl
theorem k_stolen (I : INV c w m) (x : Int32) : CALL (X10_stolen 0 x) (X11_stolen 75 x) c j w m n := by
  obtain ⟨B, ⟨u1, u2, -⟩ | ⟨u1, u2, V, K, hC, hM, -, -⟩⟩ := id I
  · refine CALL.no I (x := 1) (r := -1) (by decide) ?_ ?_
    · unfold X10_stolen X10_stolen_B14
      rw [cV0, c_hasWn u1, bd_eq, if_pos rfl, cV0, c_ref1 (by decide), bd_eq, if_neg (by decide)]
    · unfold X11_stolen
      rw [cVv75, m_good, ob_some, cV75, m_isWn (by rw [gd_14]; exact u2), bd_eq, if_pos rfl, cV75, m_no, bd_eq]
  · have g12 := hM.1.1.2.2.1
    have hC0 := hC
    have hC := hC.rf 0
    have hM := hM.gd
    obtain ⟨hv, hw, g, hV, gk, hK, h2⟩ := id hC
    rcases n_dec x (V 20 2) (by omega) with ⟨k, hk, rfl⟩ | hx
    · obtain ⟨m1, e1, l1, r1⟩ := m_sailNow (c := rf c 0) (j := j) (w := w) (m := gd m) (n := n) hM
      refine CALL.yes I (c' := rf c 0) (m' := m1) (j' := j) (n' := n) (fr.rf _) l1.mf (r := nI (lNw V K k)) ?_ ?_
      · unfold X10_stolen X10_stolen_B14
        rw [cV0, c_hasW1 hC0 rfl u1 hk, bd_eq, if_neg (by decide), cV0, c_ref0, bd_eq, if_pos rfl, F0_5, ob_some, F0_2, ob_some, cV59, c_stolen hv hw now_K g gk (GE1 g) hV hK hk, bd_eq]
        rfl
      · unfold X11_stolen
        rw [cVv75, m_good, ob_some, cV75, m_isW1 hM (by rw [gd_14]; exact u2) hk, bd_eq, if_neg (by decide), cVv75, e1, ob_some, R75_26, ob_some, M87 (by omega), ob_some, r1.1 k hk]
    · refine CALL.no I (x := 1) (r := -1) (by decide) ?_ ?_
      · unfold X10_stolen X10_stolen_B14
        rw [cV0, c_hasW0 hC0 rfl u1 hx, bd_eq, if_pos rfl, cV0, c_ref1 (by decide), bd_eq, if_neg (by decide)]
      · unfold X11_stolen
        rw [cVv75, m_good, ob_some, cV75, m_isW0 hM (by rw [gd_14]; exact u2) hx, bd_eq, if_pos rfl, cV75, m_no, bd_eq]
theorem k_relief (I : INV c w m) (x : Int32) : CALL (X10_relief 0 x) (X11_relief 75 x) c j w m n := by
  obtain ⟨B, ⟨u1, u2, -⟩ | ⟨u1, u2, V, K, hC, hM, -, -⟩⟩ := id I
  · refine CALL.no I (x := 1) (r := -1) (by decide) ?_ ?_
    · unfold X10_relief X10_relief_B14
      rw [cV0, c_hasWn u1, bd_eq, if_pos rfl, cV0, c_ref1 (by decide), bd_eq, if_neg (by decide)]
    · unfold X11_relief
      rw [cVv75, m_good, ob_some, cV75, m_isWn (by rw [gd_14]; exact u2), bd_eq, if_pos rfl, cV75, m_no, bd_eq]
  · have g12 := hM.1.1.2.2.1
    have hC0 := hC
    have hC := hC.rf 0
    have hM := hM.gd
    obtain ⟨hv, hw, g, hV, gk, hK, h2⟩ := id hC
    rcases n_dec x (V 20 2) (by omega) with ⟨k, hk, rfl⟩ | hx
    · obtain ⟨c1, d1, f1, k1, -⟩ := c_trialOf (c := rf c 0) (j := j) (w := w) (m := m) (n := n) now_K (by decide) g hK (RS_all g h2)
      have q1 : fr (rf c 0) c1 := fun y hy => f1 y (by omega)
      obtain ⟨c2, d2, f2⟩ := c_reliefL (c := c1) (j := j) (w := w) (m := m) (n := n) (hC.fr q1) rfl k1 hk
      obtain ⟨m1, e1, l1, -, t1, -⟩ := m_ldS (c := c2) (j := j) (w := w) (m := gd m) (n := n) hM
      obtain ⟨m2, e2, l2⟩ := m_reliefL (c := c2) (j := j) (w := w) (m := m1) (n := n) t1 hk
      refine CALL.yes I (c' := c2) (m' := m2) (j' := j) (n' := n) (q1.tr f2) (l1.tr l2).mf (r := nI (amn (fun b => stl V (KB K k b) (V 1) k) (V 20 0))) ?_ ?_
      · unfold X10_relief X10_relief_B14
        rw [cV0, c_hasW1 hC0 rfl u1 hk, bd_eq, if_neg (by decide), cV0, c_ref0, bd_eq, if_pos rfl, F0_5, ob_some, F0_2, ob_some, cV59, d1, bd_eq, d2]
      · unfold X11_relief
        rw [cVv75, m_good, ob_some, cV75, m_isW1 hM (by rw [gd_14]; exact u2) hk, bd_eq, if_neg (by decide), R75_19, ob_some, cVv75, e1, ob_some, e2]
    · refine CALL.no I (x := 1) (r := -1) (by decide) ?_ ?_
      · unfold X10_relief X10_relief_B14
        rw [cV0, c_hasW0 hC0 rfl u1 hx, bd_eq, if_pos rfl, cV0, c_ref1 (by decide), bd_eq, if_neg (by decide)]
      · unfold X11_relief
        rw [cVv75, m_good, ob_some, cV75, m_isW0 hM (by rw [gd_14]; exact u2) hx, bd_eq, if_pos rfl, cV75, m_no, bd_eq]
theorem k_fitAt (I : INV c w m) (x : Int32) : CALL (X10_fitAt 0 x) (X11_fitAt 75 x) c j w m n := by
  obtain ⟨B, ⟨u1, u2, -⟩ | ⟨u1, u2, V, K, hC, hM, -, -⟩⟩ := id I
  · refine CALL.no I (x := 1) (r := -1) (by decide) ?_ ?_
    · unfold X10_fitAt X10_fitAt_B26 X10_fitAt_B38
      rw [F0_11, ob_some, u1, if_pos rfl, if_pos rfl, cV0, c_ref1 (by decide), bd_eq, if_neg (by decide)]
    · unfold X11_fitAt X11_fitAt_B15
      rw [cVv75, m_good, ob_some, I75_14, ob_some, gd_14, u2, if_pos rfl, cV75, m_no, bd_eq]
  · have hM := hM.gd
    obtain ⟨hv, hw, g, hV, gk, hK, h2⟩ := id hC
    obtain ⟨c1, d1, f1⟩ := c_fitting (c := c) (j := j) (w := w) (m := m) (n := n) hv hw g hV
    have hV1 := (hC.fr f1.fr).2.2.2.1
    have hcq : ∀ z : Int32, cq c (rf c1 z) := fun z => ⟨fun y h1 h2 => by rw [rf_o (by omega), f1 y (by omega)], fun f hf => by rw [rf_f hf, f1 0 (by omega)]⟩
    by_cases h0 : x < 0
    · refine ⟨-1, rf c1 1, j, w, tb (gd m) 1, n, ?_, ?_, I.q (hcq 1) (mq_gt m 1) (by rw [rf_t, tb_t]) (fun z => absurd (by rw [rf_t] at z; exact z) (by decide))⟩
      · unfold X10_fitAt X10_fitAt_B26 X10_fitAt_B38
        rw [F0_11, ob_some, u1, if_neg (by decide), F0_7, ob_some, ob_some, cV_eq F71_is, d1, bd_eq, cV_eq F71_is, c_fitOfN hv hw g hV1 h0, bd_eq, if_pos rfl, cV0, c_ref1 (by decide), bd_eq, if_neg (by decide)]
      · unfold X11_fitAt X11_fitAt_B15
        rw [cVv75, m_good, ob_some, I75_14, ob_some, gd_14, u2, if_neg (by decide), if_neg (Int32.not_le.mpr h0), cV75, m_no, bd_eq]
    · obtain ⟨i, hi, rfl⟩ := n_pos h0
      have hN := sets_lt g
      have hr : -10 ≤ nth (fitB V) i (2 ^ V 20 5) ∧ nth (fitB V) i (2 ^ V 20 5) < 100 := by
        unfold nth
        have := fiF_range (p := fun s => fitB V s && cnt (fitB V) s == i) (2 ^ V 20 5)
        split <;> omega
      have hz : iI (nth (fitB V) i (2 ^ V 20 5)) = -1 ↔ nth (fitB V) i (2 ^ V 20 5) = -1 := Z_inj (b := -1) (by omega) (by omega) (by omega) (by omega)
      have hr2 : nth (fitB V) i (2 ^ V 20 5) = -1 ∨ 0 ≤ nth (fitB V) i (2 ^ V 20 5) := by
        unfold nth
        have := fiF_range (p := fun s => fitB V s && cnt (fitB V) s == i) (2 ^ V 20 5)
        split
        · left; rfl
        · right; omega
      have hz2 : (0 : Int32) ≤ iI (nth (fitB V) i (2 ^ V 20 5)) ↔ 0 ≤ nth (fitB V) i (2 ^ V 20 5) := Z_le (a := 0) (by omega) (by omega) (by omega) (by omega)
      have hnn : (0 : Int32) ≤ nI i := Int32.not_lt.mp h0
      by_cases e : nth (fitB V) i (2 ^ V 20 5) = -1
      · obtain ⟨m1, e1, l1, -⟩ := m_seek (c := rf c1 1) (j := j) (w := w) (m := gd m) (n := n) hM (nI i)
        rw [skF_nth hi (by omega)] at e1
        refine ⟨-1, rf c1 1, j, w, tb m1 1, n, ?_, ?_, I.q (hcq 1) ?_ (by rw [rf_t, tb_t]) (fun z => absurd (by rw [rf_t] at z; exact z) (by decide))⟩
        · unfold X10_fitAt X10_fitAt_B26 X10_fitAt_B38
          rw [F0_11, ob_some, u1, if_neg (by decide), F0_7, ob_some, ob_some, cV_eq F71_is, d1, bd_eq, cV_eq F71_is, c_fitOf hv hw g hV1 hi, bd_eq, if_pos (hz.mpr e), cV0, c_ref1 (by decide), bd_eq, if_neg (by decide)]
        · unfold X11_fitAt
          rw [cVv75, m_good, ob_some, I75_14, ob_some, gd_14, u2, if_neg (by decide), if_pos hnn, cV75, e1, bd_eq, if_neg (fun z => by have := hz2.mp z; omega), cV75, m_no, bd_eq]
        · exact ⟨fun y h1 h2 => by rw [tb_o (by omega)]; exact (mq_mf l1).1 y h1 h2, fun f h1 h2 h3 => by rw [tb_f h3]; exact (mq_mf l1).2 f h1 h2 h3⟩
      · obtain ⟨m1, e1, l1, -⟩ := m_seek (c := rf c1 0) (j := j) (w := w) (m := gd m) (n := n) hM (nI i)
        rw [skF_nth hi (by omega)] at e1
        refine ⟨iI (nth (fitB V) i (2 ^ V 20 5)), rf c1 0, j, w, m1, n, ?_, ?_, I.q (hcq 0) (mq_mf l1) (by rw [rf_t, mf_11 l1]) (fun z => absurd (by rw [rf_t] at z; exact z) (by decide))⟩
        · unfold X10_fitAt X10_fitAt_B26 X10_fitAt_B38
          rw [F0_11, ob_some, u1, if_neg (by decide), F0_7, ob_some, ob_some, cV_eq F71_is, d1, bd_eq, cV_eq F71_is, c_fitOf hv hw g hV1 hi, bd_eq, if_neg (fun z => e (hz.mp z)), cV0, c_ref0, bd_eq, if_pos rfl]
        · unfold X11_fitAt
          rw [cVv75, m_good, ob_some, I75_14, ob_some, gd_14, u2, if_neg (by decide), if_pos hnn, cV75, e1, bd_eq, if_pos (hz2.mpr (by omega))]
end
