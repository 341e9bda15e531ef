/-! the calls: draws, sizes, what is told -/
section
variable {c : Nat → Nat → Int32} {j : Nat → Nat → Int64} {w : Nat → Nat} {m : Nat → Nat → Int32} {n : Nat → Nat → Int64} {v : Nat} {V K : Nat → Nat → Nat}
theorem c_drawR (hu : c 0 11 = 0) (x y z : Int32) : X10_whyNotDrawn 0 x y z (enc c j w m n) = some (1, enc c j w m n) := by
  unfold X10_whyNotDrawn X10_whyNotDrawn_B28 X10_whyNotDrawn_B29
  rw [F0_11, ob_some, hu, c_why1, bd_eq, c_why1, bd_eq]
  simp only [ite_self]
theorem c_draw1 (hu : c 0 11 = 1) {s b M : Nat} (hs : s < 65537) (hb : b ≤ M) (hM : M < 1000) : X10_whyNotDrawn 0 (nI s) (nI b) (nI M) (enc c j w m n) = some (0, enc c j w m n) := by
  unfold X10_whyNotDrawn X10_whyNotDrawn_B29
  rw [F0_11, ob_some, hu, if_neg (by rw [N_lt0 (by omega)]; exact id), show (65537 : Int32) = nI 65537 from rfl, if_neg (by rw [N_le (by omega) (by omega)]; omega), if_neg (by rw [N_lt0 (by omega)]; exact id), if_neg (by rw [N_lt (by omega) (by omega)]; omega), c_why0, bd_eq]
theorem c_draw2 (hu : c 0 11 = 1) {x y : Int32} {M : Nat} (hM : M < 1000) (h : (x < 0 ∨ (¬ x < 0 ∧ nI 65537 ≤ x)) ∨ (y < 0 ∨ (¬ y < 0 ∧ nI (M + 1) ≤ y))) : X10_whyNotDrawn 0 x y (nI M) (enc c j w m n) = some (2, enc c j w m n) := by
  unfold X10_whyNotDrawn X10_whyNotDrawn_B28 X10_whyNotDrawn_B29
  rw [F0_11, ob_some, hu, c_why2, bd_eq, c_why0, bd_eq]
  by_cases h1 : x < 0
  · rw [if_pos h1]
  · rw [if_neg h1]
    by_cases h2 : (65537 : Int32) ≤ x
    · rw [if_pos h2]
    · rw [if_neg h2]
      rcases h with (q | q) | q
      · exact absurd q h1
      · exact absurd q.2 h2
      · rcases out_lt (by omega) q with q | ⟨q1, q2⟩
        · rw [if_pos q]
        · rw [if_neg q1, if_pos q2]
theorem m_drawn (hu : m 75 14 = 0) (x y : Int32) : X11_drawWhy 75 x y (enc c j w m n) = some (1, enc c j w m n) := by
  unfold X11_drawWhy X11_drawWhy_B24 X11_drawWhy_B25
  rw [I75_14, ob_some, hu, m_in, bd_eq, cV75, m_why1, bd_eq, if_neg (show ¬ (1 : Int32) = 0 by decide), cV75, m_why1, bd_eq, if_neg (show ¬ (1 : Int32) = 0 by decide)]
  simp only [ite_self]
theorem m_draw2 (hu : m 75 14 = 1) {x y : Int32} (h : (x < 0 ∨ (¬ x < 0 ∧ nI 65537 ≤ x)) ∨ y = 0) : X11_drawWhy 75 x y (enc c j w m n) = some (2, enc c j w m n) := by
  unfold X11_drawWhy X11_drawWhy_B24 X11_drawWhy_B25
  rw [I75_14, ob_some, hu]
  rcases h with q | q
  · rw [show X11_in x 0 65536 (enc c j w m n) = _ from m_in0 (b := 65536) (by omega) q _, bd_eq, if_pos rfl, cV75, m_why2, bd_eq, if_neg (by decide)]
  · rw [m_in, bd_eq, if_pos q, cV75, m_why2, bd_eq, if_neg (show ¬ (2 : Int32) = 0 by decide)]
    simp only [ite_self]
theorem m_draw1 (h : MN m V K) (hu : m 75 14 = 1) {s : Nat} (hs : s < 65537) : ∃ m', X11_drawWhy 75 (nI s) 1 (enc c j w m n) = some (0, enc c j w m' n) ∧ mf m m' ∧ DW m' V K s := by
  obtain ⟨m1, e1, l1, d1⟩ := m_ldD (c := c) (j := j) (w := w) (m := m) (n := n) h hs
  refine ⟨_, ?_, l1, d1⟩
  unfold X11_drawWhy X11_drawWhy_B25
  rw [I75_14, ob_some, hu, show X11_in (nI s) 0 65536 (enc c j w m n) = _ from m_in1 (a := 0) (b := 65536) (by omega) (by omega) (by omega) _, bd_eq, if_neg (by decide), if_neg (by decide), cV75, m_why0, bd_eq, if_pos rfl, R75_19, ob_some, cVv75, e1, ob_some, pZ_1, P75_33, ob_some, P75_32, ob_some, vup_up, vup_at]
theorem CN_seed (h : CN c w v V K) (x : Nat → Int32) : CN (va_up c 59 x) w v V K ∧ fr c (va_up c 59 x) := ⟨h.fr fun y hy => vup_ne _ _ (by omega), fun y hy => vup_ne _ _ (by omega)⟩
theorem k_idled (I : INV c w m) (x y : Int32) : CALL (X10_idled 0 x y) (X11_idled 75 x y) c j w m n := by
  obtain ⟨B, ⟨u1, u2, -⟩ | ⟨u1, u2, V, K, hC, hM, -, -⟩⟩ := id I
  · have hv : isV (w 0) := BS_w B
    refine CALL.no I (x := 1) (r := -1) (by decide) ?_ ?_
    · unfold X10_idled
      rw [F0_9, ob_some, V_2 hv, ob_some, T_count (V_wats hv), ob_some, cV0, c_drawR u1, bd_eq, cV0, c_ref1 (by decide), bd_eq, if_neg (by decide)]
    · unfold X11_idled X11_idled_B19
      rw [cVv75, m_good, ob_some, cV75, m_numn (by rw [gd_14]; exact u2), bd_eq, if_neg (by decide), cV75, m_drawn (by rw [gd_14]; exact u2), bd_eq, if_neg (by decide), cV75, m_no, bd_eq]
  · have g12 := hM.1.1.2.2.1
    have hC0 := hC
    have hC := hC.rf 0
    have hM := hM.gd
    have u2' : gd m 75 14 = 1 := by rw [gd_14]; exact u2
    obtain ⟨hv, hw, g, -, gk, -, -⟩ := id hC
    have no : (x < 0 ∨ (¬ x < 0 ∧ nI 65537 ≤ x)) ∨ (y < 0 ∨ (¬ y < 0 ∧ nI (V 20 2 + 1) ≤ y)) → (∀ r : Int32, X11_numberWhy 75 y (enc (rf c 2) j w (gd m) n) = some (r, enc (rf c 2) j w (gd m) n) → ((x < 0 ∨ (¬ x < 0 ∧ nI 65537 ≤ x)) ∨ r ≠ 0)) → CALL (X10_idled 0 x y) (X11_idled 75 x y) c j w m n := by
      intro q q2
      refine CALL.no I (x := 2) (r := -1) (by decide) ?_ ?_
      · unfold X10_idled
        rw [F0_9, ob_some, V_2 hv, ob_some, c_cW hC0 rfl, ob_some, cV0, c_draw2 u1 (by omega) q, bd_eq, cV0, c_ref1 (by decide), bd_eq, if_neg (by decide)]
      · have hr : ∃ r : Int32, X11_numberWhy 75 y (enc (rf c 2) j w (gd m) n) = some (r, enc (rf c 2) j w (gd m) n) := by
          rcases n_dec y (V 20 2 + 1) (by omega) with ⟨b, hb, rfl⟩ | hy
          · exact ⟨0, m_num1 hM u2' (by omega)⟩
          · exact ⟨2, m_num0 hM u2' hy⟩
        obtain ⟨r, er⟩ := hr
        unfold X11_idled X11_idled_B19
        rw [cVv75, m_good, ob_some, cV75, er, bd_eq]
        rcases q2 r er with z | z
        · rw [cV75, m_draw2 u2' (Or.inl z), bd_eq, if_neg (show ¬ (2 : Int32) = 0 by decide), cV75, m_no, bd_eq, cV75, m_draw2 u2' (Or.inl z), bd_eq, if_neg (show ¬ (2 : Int32) = 0 by decide), cV75, m_no, bd_eq]
          simp only [ite_self]
        · rw [if_neg z, cV75, m_draw2 u2' (Or.inr rfl), bd_eq, if_neg (by decide), cV75, m_no, bd_eq]
    rcases n_dec x 65537 (by omega) with ⟨s, hs, rfl⟩ | hx
    · rcases n_dec y (V 20 2 + 1) (by omega) with ⟨b, hb, rfl⟩ | hy
      · have hb : b ≤ V 20 2 := by omega
        obtain ⟨hC1, f1⟩ := CN_seed hC (upd (rf c 0 59) 4 (nI s))
        obtain ⟨-, -, -, hV, -, hK, -⟩ := id hC1
        obtain ⟨c2, d2, f2, -, t2⟩ := c_drawIdle (c := va_up (rf c 0) 59 (upd (rf c 0 59) 4 (nI s))) (j := j) (w := w) (m := m) (n := n) hv hw now_K g gk (GE1 g) hV hK hs (by rw [vup_at, upd_at])
        obtain ⟨m1, e1, l1, w1⟩ := m_draw1 (c := c2) (j := j) (w := w) (m := gd m) (n := n) hM u2' hs
        obtain ⟨m2, e2, l2, r2, -⟩ := m_sailD (c := c2) (j := j) (w := w) (m := m1) (n := n) g gk w1 hb
        refine CALL.yes I (c' := c2) (m' := m2) (j' := j) (n' := n) (f1.tr fun y hy => f2 y (by omega) (by omega)) (l1.tr l2.mf) (r := nI (sumN (drL V K (V 1) s) b)) ?_ ?_
        · unfold X10_idled
          rw [F0_9, ob_some, V_2 hv, ob_some, c_cW hC0 rfl, ob_some, cV0, c_draw1 u1 hs hb (by omega), bd_eq, cV0, c_ref0, bd_eq, if_pos rfl, F0_5, ob_some, F59_p4, ob_some, F0_5, ob_some, F0_2, ob_some, cVv59, d2, ob_some, F0_5, ob_some, cV59, c_lostBy (L := drL V K (V 1) s) (by omega) (fun k hk => t2 k (by omega)), bd_eq]
        · unfold X11_idled X11_idled_B19
          rw [cVv75, m_good, ob_some, cV75, m_num1 hM u2' hb, bd_eq, if_pos rfl, cV75, e1, bd_eq, if_pos rfl, cVv75, e2, ob_some, cV75, m_sumFirst (L := drL V K (V 1) s) (by omega) r2.1, bd_eq]
      · exact no (Or.inr hy) fun r er => Or.inr fun z => by
          rw [m_num0 hM u2' hy] at er
          rw [z] at er; cases er
    · exact no (Or.inl hx) fun r er => Or.inl hx
theorem k_squareBy (I : INV c w m) (x y : Int32) : CALL (X10_squareBy 0 x y) (X11_squareBy 75 x y) c j w m n := by
  obtain ⟨B, ⟨u1, u2, -⟩ | ⟨u1, u2, V, K, hC, hM, -, -⟩⟩ := id I
  · have hv : isV (w 0) := BS_w B
    refine CALL.no I (x := 1) (r := -1) (by decide) ?_ ?_
    · unfold X10_squareBy
      rw [F0_9, ob_some, V_2 hv, ob_some, T_count (V_wats hv), ob_some, cV0, c_drawR u1, bd_eq, cV0, c_ref1 (by decide), bd_eq, if_neg (by decide)]
    · unfold X11_squareBy X11_squareBy_B19
      rw [cVv75, m_good, ob_some, cV75, m_numn (by rw [gd_14]; exact u2), bd_eq, if_neg (by decide), cV75, m_drawn (by rw [gd_14]; exact u2), bd_eq, if_neg (by decide), cV75, m_no, bd_eq]
  · have g12 := hM.1.1.2.2.1
    have hC0 := hC
    have hC := hC.rf 0
    have hM := hM.gd
    have u2' : gd m 75 14 = 1 := by rw [gd_14]; exact u2
    obtain ⟨hv, hw, g, -, gk, -, -⟩ := id hC
    have no : (x < 0 ∨ (¬ x < 0 ∧ nI 65537 ≤ x)) ∨ (y < 0 ∨ (¬ y < 0 ∧ nI (V 20 2 + 1) ≤ y)) → (∀ r : Int32, X11_numberWhy 75 y (enc (rf c 2) j w (gd m) n) = some (r, enc (rf c 2) j w (gd m) n) → ((x < 0 ∨ (¬ x < 0 ∧ nI 65537 ≤ x)) ∨ r ≠ 0)) → CALL (X10_squareBy 0 x y) (X11_squareBy 75 x y) c j w m n := by
      intro q q2
      refine CALL.no I (x := 2) (r := -1) (by decide) ?_ ?_
      · unfold X10_squareBy
        rw [F0_9, ob_some, V_2 hv, ob_some, c_cW hC0 rfl, ob_some, cV0, c_draw2 u1 (by omega) q, bd_eq, cV0, c_ref1 (by decide), bd_eq, if_neg (by decide)]
      · have hr : ∃ r : Int32, X11_numberWhy 75 y (enc (rf c 2) j w (gd m) n) = some (r, enc (rf c 2) j w (gd m) n) := by
          rcases n_dec y (V 20 2 + 1) (by omega) with ⟨b, hb, rfl⟩ | hy
          · exact ⟨0, m_num1 hM u2' (by omega)⟩
          · exact ⟨2, m_num0 hM u2' hy⟩
        obtain ⟨r, er⟩ := hr
        unfold X11_squareBy X11_squareBy_B19
        rw [cVv75, m_good, ob_some, cV75, er, bd_eq]
        rcases q2 r er with z | z
        · rw [cV75, m_draw2 u2' (Or.inl z), bd_eq, if_neg (show ¬ (2 : Int32) = 0 by decide), cV75, m_no, bd_eq, cV75, m_draw2 u2' (Or.inl z), bd_eq, if_neg (show ¬ (2 : Int32) = 0 by decide), cV75, m_no, bd_eq]
          simp only [ite_self]
        · rw [if_neg z, cV75, m_draw2 u2' (Or.inr rfl), bd_eq, if_neg (by decide), cV75, m_no, bd_eq]
    rcases n_dec x 65537 (by omega) with ⟨s, hs, rfl⟩ | hx
    · rcases n_dec y (V 20 2 + 1) (by omega) with ⟨b, hb, rfl⟩ | hy
      · have hb : b ≤ V 20 2 := by omega
        obtain ⟨hC1, f1⟩ := CN_seed hC (upd (rf c 0 59) 4 (nI s))
        obtain ⟨-, -, -, hV, -, hK, -⟩ := id hC1
        obtain ⟨c2, d2, f2, -, t2⟩ := c_drawIdle (c := va_up (rf c 0) 59 (upd (rf c 0 59) 4 (nI s))) (j := j) (w := w) (m := m) (n := n) hv hw now_K g gk (GE1 g) hV hK hs (by rw [vup_at, upd_at])
        have q2 : fr (rf c 0) c2 := f1.tr fun y hy => f2 y (by omega) (by omega)
        obtain ⟨-, -, -, hV2, -, hK2, h22⟩ := hC.fr q2
        obtain ⟨c3, d3, f3, s3⟩ := c_sail (c := c2) (j := j) (w := w) (m := m) (n := n) hv hw now_K g gk hV2 hK2 (RS_all g h22) t2 (a := 0) (b := b) (Nat.zero_le _) hb (Or.inl rfl)
        obtain ⟨b1, b2⟩ := sq_lt (K := K) g (drL_b g gk s) hb
        obtain ⟨m1, e1, l1, w1⟩ := m_draw1 (c := c3) (j := j) (w := w) (m := gd m) (n := n) hM u2' hs
        obtain ⟨m2, e2, l2, r2, -⟩ := m_sailD (c := c3) (j := j) (w := w) (m := m1) (n := n) g gk w1 hb
        refine CALL.yes I (c' := c3) (m' := m2) (j' := j) (n' := n) (q2.tr fun y hy => f3 y (by omega)) (l1.tr l2.mf) (r := iI (sqr (pE V K (drL V K (V 1) s) b) (pN V K (drL V K (V 1) s) b))) ?_ ?_
        · unfold X10_squareBy
          rw [F0_9, ob_some, V_2 hv, ob_some, c_cW hC0 rfl, ob_some, cV0, c_draw1 u1 hs hb (by omega), bd_eq, cV0, c_ref0, bd_eq, if_pos rfl, F0_5, ob_some, F59_p4, ob_some, F0_5, ob_some, F0_2, ob_some, cVv59, d2, ob_some, F0_5, ob_some, F0_2, ob_some, cVv59, show X6_sail 59 35 0 (nI b) (enc c2 j w m n) = _ from d3, ob_some, F0_5, ob_some, F59_0, ob_some, cV_eq F60_is, c_inSquare s3 b1 b2, bd_eq]
        · unfold X11_squareBy X11_squareBy_B19
          rw [cVv75, m_good, ob_some, cV75, m_num1 hM u2' hb, bd_eq, if_pos rfl, cV75, e1, bd_eq, if_pos rfl, cVv75, e2, ob_some, cV75, m_squareOf g (drL_b g gk s) r2 hb (Nat.le_refl _), bd_eq]
      · exact no (Or.inr hy) fun r er => Or.inr fun z => by
          rw [m_num0 hM u2' hy] at er
          rw [z] at er; cases er
    · exact no (Or.inl hx) fun r er => Or.inl hx
theorem k_wrecks (I : INV c w m) (x y : Int32) : CALL (X10_wrecks 0 x y) (X11_wrecks 75 x y) c j w m n := by
  obtain ⟨B, ⟨u1, u2, -⟩ | ⟨u1, u2, V, K, hC, hM, -, -⟩⟩ := id I
  · refine CALL.no I (x := 1) (r := -1) (by decide) ?_ ?_
    · unfold X10_wrecks
      rw [cV0, c_drawR u1, bd_eq, cV0, c_ref1 (by decide), bd_eq, if_neg (by decide)]
    · unfold X11_wrecks
      rw [cVv75, m_good, ob_some, m_in, bd_eq, cV75, m_drawn (by rw [gd_14]; exact u2), bd_eq, if_neg (by decide), cV75, m_no, bd_eq]
  · have hC0 := hC
    have hC := hC.rf 0
    have hM := hM.gd
    have u2' : gd m 75 14 = 1 := by rw [gd_14]; exact u2
    obtain ⟨hv, hw, g, -, gk, -, -⟩ := id hC
    rcases n_dec x 65537 (by omega) with ⟨s, hs, rfl⟩ | hx
    · rcases n_dec y 21 (by omega) with ⟨b, hb, rfl⟩ | hy
      · have hb : b ≤ 20 := by omega
        obtain ⟨hC1, f1⟩ := CN_seed hC (upd (rf c 0 59) 4 (nI s))
        obtain ⟨c2, d2, f2⟩ := c_wrecksL (c := va_up (rf c 0) 59 (upd (rf c 0 59) 4 (nI s))) (j := j) (w := w) (m := m) (n := n) hC1 rfl hs (by rw [vup_at, upd_at]) hb
        obtain ⟨m1, e1, l1, w1⟩ := m_draw1 (c := c2) (j := j) (w := w) (m := gd m) (n := n) hM u2' hs
        obtain ⟨m2, e2, l2⟩ := m_wrecksL (c := c2) (j := j) (w := w) (m := m1) (n := n) g gk w1 hb
        refine CALL.yes I (c' := c2) (m' := m2) (j' := j) (n' := n) (f1.tr f2) (l1.tr l2.mf) (r := nI (wrk V K s b)) ?_ ?_
        · unfold X10_wrecks
          rw [cV0, show X10_whyNotDrawn 0 (nI s) (nI b) 20 (enc c j w m n) = _ from c_draw1 (M := 20) u1 hs hb (by omega), bd_eq, cV0, c_ref0, bd_eq, if_pos rfl, F0_5, ob_some, F59_p4, ob_some, d2]
        · unfold X11_wrecks
          rw [cVv75, m_good, ob_some, show X11_in (nI b) 0 20 (enc c2 j w (gd m) n) = _ from m_in1 (a := 0) (b := 20) (by omega) (by omega) (by omega) _, bd_eq, cV75, e1, bd_eq, if_pos rfl, e2]
      · refine CALL.no I (x := 2) (r := -1) (by decide) ?_ ?_
        · unfold X10_wrecks
          rw [cV0, show X10_whyNotDrawn 0 (nI s) y 20 (enc c j w m n) = _ from c_draw2 (M := 20) u1 (by omega) (Or.inr hy), bd_eq, cV0, c_ref1 (by decide), bd_eq, if_neg (by decide)]
        · unfold X11_wrecks
          rw [cVv75, m_good, ob_some, show X11_in y 0 20 (enc (rf c 2) j w (gd m) n) = _ from m_in0 (b := 20) (by omega) hy _, bd_eq, cV75, m_draw2 u2' (Or.inr rfl), bd_eq, if_neg (by decide), cV75, m_no, bd_eq]
    · refine CALL.no I (x := 2) (r := -1) (by decide) ?_ ?_
      · unfold X10_wrecks
        rw [cV0, show X10_whyNotDrawn 0 x y 20 (enc c j w m n) = _ from c_draw2 (M := 20) u1 (by omega) (Or.inl hx), bd_eq, cV0, c_ref1 (by decide), bd_eq, if_neg (by decide)]
      · unfold X11_wrecks
        rw [cVv75, m_good, ob_some, m_in, bd_eq, cV75, m_draw2 u2' (Or.inl hx), bd_eq, if_neg (by decide), cV75, m_no, bd_eq]
/-- calls that say nothing of trouble -/
def th0 (m : Nat → Nat → Int32) (x : Int32) : Nat → Nat → Int32 := va_up m 75 (upd (m 75) 0 x)
theorem th0_f {m : Nat → Nat → Int32} {x : Int32} {f : Nat} (h : f ≠ 0) : th0 m x 75 f = m 75 f := by rw [th0, vup_at, upd_ne h]
theorem th0_o {m : Nat → Nat → Int32} {x : Int32} {y : Nat} (h : y ≠ 75) : th0 m x y = m y := vup_ne _ _ h
theorem mq_th (m : Nat → Nat → Int32) (x : Int32) : mq m (th0 m x) := ⟨fun y h1 _ => th0_o (by omega), fun f h1 _ _ => th0_f (by omega)⟩
theorem cq_rfl (c : Nat → Nat → Int32) : cq c c := ⟨fun _ _ _ => rfl, fun _ _ => rfl⟩
theorem INV.th {c m : Nat → Nat → Int32} {w : Nat → Nat} (I : INV c w m) (x : Int32) : INV c w (th0 m x) := I.q (cq_rfl c) (mq_th m x) (by rw [th0_f (by omega)]; exact I.1.2.2.2.1) id
theorem k_fault (I : INV c w m) : CALL (X10_fault 0) (X11_fault 75) c j w m n := by
  refine ⟨m 75 9, c, j, w, th0 m 0, n, ?_, ?_, I.th 0⟩
  · unfold X10_fault
    rw [F0_1, ob_some, show gI (enc c j w m n) 32 5 11 = some (c 32 11) from gI_c rfl rfl (by decide), ob_some, I.1.2.2.2.2.1]
  · unfold X11_fault
    rw [P75_0, ob_some, I75_9, ob_some]
    show some (th0 m 0 75 9, _) = _
    rw [th0_f (by omega)]; rfl
theorem k_where (I : INV c w m) : CALL (X10_where 0) (X11_where 75) c j w m n := by
  obtain ⟨-, -, -, b4, -, b6⟩ := I.1
  refine ⟨if m 75 11 = 4 then m 75 10 else -1, c, j, w, th0 m 0, n, ?_, ?_, I.th 0⟩
  · unfold X10_where
    rw [F0_14, ob_some, F0_1, ob_some, show gI (enc c j w m n) 32 5 12 = some (c 32 12) from gI_c rfl rfl (by decide), ob_some, b4]
    by_cases e : m 75 11 = 4
    · rw [if_pos e, if_pos e, b6 (by rw [b4]; exact e)]
    · rw [if_neg e, if_neg e]
  · unfold X11_where
    rw [P75_0, ob_some, show va_up m 75 (upd (m 75) 0 0) = th0 m 0 from rfl, I75_11, ob_some, I75_10, ob_some, th0_f (by omega), th0_f (by omega)]
    split <;> rfl
theorem k_trouble (I : INV c w m) : CALL (X10_trouble 0) (X11_trouble 75) c j w m n := by
  obtain ⟨-, -, -, b4, -, -⟩ := I.1
  refine ⟨m 75 11, c, j, w, th0 m 0, n, ?_, ?_, I.th 0⟩
  · unfold X10_trouble
    rw [F0_14, ob_some, b4]
  · unfold X11_trouble
    rw [P75_0, ob_some, show va_up m 75 (upd (m 75) 0 0) = th0 m 0 from rfl, I75_11, ob_some, th0_f (by omega)]
end
