/-! the calls: the last questions -/
section
variable {c : Nat → Nat → Int32} {j : Nat → Nat → Int64} {w : Nat → Nat} {m : Nat → Nat → Int32} {n : Nat → Nat → Int64} {V K : Nat → Nat → Nat}
theorem c_why1 (y : Int32) (h : Hp) : X10_whyNot 0 y h = some (1, h) := by rw [c_why, if_pos rfl]
theorem c_why2 (h : Hp) : X10_whyNot 1 0 h = some (2, h) := by rw [c_why, if_neg (by decide), if_pos rfl]
theorem c_why0 (h : Hp) : X10_whyNot 1 1 h = some (0, h) := by rw [c_why, if_neg (by decide), if_neg (by decide)]
theorem m_why1 (a : Nat) (y : Int32) (h : Hp) : X11_why a 0 y h = some (1, h) := by rw [m_why, if_pos rfl]
theorem m_why2 (a : Nat) (h : Hp) : X11_why a 1 0 h = some (2, h) := by rw [m_why, if_neg (by decide), if_pos rfl]
theorem m_why0 (a : Nat) (h : Hp) : X11_why a 1 1 h = some (0, h) := by rw [m_why, if_neg (by decide), if_neg (by decide)]
theorem c_glR {x y s : Int32} : X10_glass_B22 0 x y 0 0 s (enc c j w m n) = some (-1, enc (rf c 1) j w m n) := by
  unfold X10_glass_B22
  rw [c_why1, bd_eq, cV0, c_ref1 (by decide), bd_eq, if_neg (by decide)]
theorem c_gl2 {x y : Int32} : X10_glass_B22 0 x y 0 1 0 (enc c j w m n) = some (-1, enc (rf c 2) j w m n) := by
  unfold X10_glass_B22
  rw [c_why2, bd_eq, cV0, c_ref1 (by decide), bd_eq, if_neg (by decide)]
theorem c_afR {x s : Int32} : X10_attendFor_B21 0 x 0 0 s (enc c j w m n) = some (-1, enc (rf c 1) j w m n) := by
  unfold X10_attendFor_B21
  rw [c_why1, bd_eq, cV0, c_ref1 (by decide), bd_eq, if_neg (by decide)]
theorem c_af2 {x : Int32} : X10_attendFor_B21 0 x 0 1 0 (enc c j w m n) = some (-1, enc (rf c 2) j w m n) := by
  unfold X10_attendFor_B21
  rw [c_why2, bd_eq, cV0, c_ref1 (by decide), bd_eq, if_neg (by decide)]
theorem c_siR {x s : Int32} : X10_stolenIf_B30 0 x 0 0 s (enc c j w m n) = some (-1, enc (rf c 1) j w m n) := by
  unfold X10_stolenIf_B30
  rw [c_why1, bd_eq, cV0, c_ref1 (by decide), bd_eq, if_neg (by decide)]
theorem c_si2 {x : Int32} : X10_stolenIf_B30 0 x 0 1 0 (enc c j w m n) = some (-1, enc (rf c 2) j w m n) := by
  unfold X10_stolenIf_B30
  rw [c_why2, bd_eq, cV0, c_ref1 (by decide), bd_eq, if_neg (by decide)]
theorem k_glass (I : INV c w m) (x y : Int32) : CALL (X10_glass 0 x y) (X11_glass 75 x y) c j w m n := by
  obtain ⟨B, ⟨u1, u2, -⟩ | ⟨u1, u2, V, K, hC, hM, -, -⟩⟩ := id I
  · refine CALL.no I (x := 1) (r := -1) (by decide) ?_ ?_
    · unfold X10_glass X10_glass_B21
      rw [cV0, c_hasWn u1, bd_eq, c_glR, c_glR]
      simp only [ite_self]
    · unfold X11_glass
      rw [cVv75, m_good, ob_some, cV75, m_isWn (by rw [gd_14]; exact u2), bd_eq, m_in, bd_eq, cV75, m_why1, bd_eq, if_neg (by decide), cV75, m_no, bd_eq]
  · have g12 := hM.1.1.2.2.1
    have hC0 := hC
    have hC := hC.rf 0
    have hM := hM.gd
    have u2' : gd m 75 14 = 1 := by rw [gd_14]; exact u2
    obtain ⟨hv, hw, g, hV, gk, hK, h2⟩ := id hC
    rcases n_dec x (V 20 2) (by omega) with ⟨k, hk, rfl⟩ | hx
    · by_cases hy : ¬ y < 1 ∧ ¬ 8 < y
      · obtain ⟨i, hi, rfl⟩ : ∃ i, i < 8 ∧ y = nI (i + 1) := by
          have h0 : ¬ y < 0 := fun z => hy.1 (Int32.lt_trans z (by decide))
          obtain ⟨q, hq, rfl⟩ := n_pos h0
          have h1 := hy.1
          have h2 := hy.2
          rw [show (1 : Int32) = nI 1 from rfl, N_lt hq (by omega)] at h1
          rw [show (8 : Int32) = nI 8 from rfl, N_lt (by omega) hq] at h2
          exact ⟨q - 1, by omega, congrArg nI (by omega)⟩
        obtain ⟨m1, e1, l1, -, t1, -⟩ := m_ldS (c := rf c 0) (j := j) (w := w) (m := gd m) (n := n) hM
        refine CALL.yes I (c' := rf c 0) (m' := m1) (j' := j) (n' := n) (fr.rf _) l1.mf (r := nI (erG V K (V 1) k i)) ?_ ?_
        · have hl := lkOf_lt (K := K) g hk
          have T : X6_turned 59 35 (nI k) (nI (i + 1)) (enc (rf c 0) j w m n) = some (nI (erG V K (V 1) k i), enc (rf c 0) j w m n) := by
            unfold X6_turned X6_turned_B23
            rw [cV59, c_looks hv hw now_K g gk hV hK hk, bd_eq, show nI (i + 1) - 1 = nI i by rw [nI_prd (by omega)]; rfl, N_bit (by omega) (by omega)]
            unfold erG
            cases (lkOf V K k).testBit i with
            | true => rw [if_neg (show ¬ (if true = true then (1 : Int32) else 0) = 0 by decide), cV59, c_early1 hv hw now_K g gk (GE1 g) hV hK hk, bd_eq]
            | false => rw [if_pos (show (if false = true then (1 : Int32) else 0) = 0 by decide), cV59, c_early0 hv hw now_K g gk (GE1 g) hV hK hk, bd_eq]
          unfold X10_glass X10_glass_B22
          rw [cV0, c_hasW1 hC0 rfl u1 hk, bd_eq, if_neg hy.1, if_neg hy.2, c_why0, bd_eq, cV0, c_ref0, bd_eq, if_pos rfl, F0_5, ob_some, F0_2, ob_some, cV59, T, bd_eq]
        · unfold X11_glass
          rw [cVv75, m_good, ob_some, cV75, m_isW1 hM u2' hk, bd_eq, m_in, if_pos hy, bd_eq, cV75, m_why0, bd_eq, if_pos rfl, R75_19, ob_some, cVv75, e1, ob_some, cV75, m_early g gk (GE1 g) t1.2.2.2.1 t1.2.2.2.2.1 t1.2.2.2.2.2.1 hk hi, bd_eq]
      · refine CALL.no I (x := 2) (r := -1) (by decide) ?_ ?_
        · unfold X10_glass X10_glass_B21
          rw [cV0, c_hasW1 hC0 rfl u1 hk, bd_eq, c_gl2]
          by_cases q : y < 1
          · rw [if_pos q]
          · have q2 : 8 < y := by
              by_cases q2 : 8 < y
              · exact q2
              · exact absurd ⟨q, q2⟩ hy
            rw [if_neg q, if_pos q2]
        · unfold X11_glass
          rw [cVv75, m_good, ob_some, cV75, m_isW1 hM u2' hk, bd_eq, m_in, if_neg hy, bd_eq, cV75, m_why2, bd_eq, if_neg (by decide), cV75, m_no, bd_eq]
    · refine CALL.no I (x := 1) (r := -1) (by decide) ?_ ?_
      · unfold X10_glass X10_glass_B21
        rw [cV0, c_hasW0 hC0 rfl u1 hx, bd_eq, c_glR, c_glR]
        simp only [ite_self]
      · unfold X11_glass
        rw [cVv75, m_good, ob_some, cV75, m_isW0 hM u2' hx, bd_eq, m_in, bd_eq, cV75, m_why1, bd_eq, if_neg (by decide), cV75, m_no, bd_eq]
theorem c_course1 {q : Nat} (hq : q < 4) (h : Hp) : X10_isCourse (nI q) h = some (1, h) := by
  unfold X10_isCourse
  rw [if_neg (by rw [N_lt0 (by omega)]; exact id), show (4 : Int32) = nI 4 from rfl, if_neg (by rw [N_le (by omega) (by omega)]; omega), rZ_1]
theorem c_course0 {x : Int32} (hx : x < 0 ∨ (¬ x < 0 ∧ nI 4 ≤ x)) (h : Hp) : X10_isCourse x h = some (0, h) := by
  unfold X10_isCourse
  rcases hx with q | ⟨q1, q2⟩
  · rw [if_pos q, rZ_0]
  · rw [if_neg q1, if_pos (show (4 : Int32) ≤ x from q2), rZ_0]
theorem c_courseX (x : Int32) (h : Hp) : ∃ r, X10_isCourse x h = some (r, h) := by
  rcases n_dec x 4 (by omega) with ⟨q, hq, rfl⟩ | hx
  · exact ⟨1, c_course1 hq h⟩
  · exact ⟨0, c_course0 hx h⟩
theorem k_strikesIf (I : INV c w m) (x y : Int32) : CALL (X10_strikesIf 0 x y) (X11_strikesIf 75 x y) c j w m n := by
  obtain ⟨B, ⟨u1, u2, -⟩ | ⟨u1, u2, V, K, hC, hM, -, -⟩⟩ := id I
  · refine CALL.no I (x := 1) (r := -1) (by decide) ?_ ?_
    · obtain ⟨r, er⟩ := c_courseX y (enc c j w m n)
      unfold X10_strikesIf
      rw [cV0, c_hasWn u1, bd_eq, er, bd_eq, c_why1, bd_eq, cV0, c_ref1 (by decide), bd_eq, if_neg (by decide)]
    · unfold X11_strikesIf
      rw [cVv75, m_good, ob_some, cV75, m_isWn (by rw [gd_14]; exact u2), bd_eq, m_in, bd_eq, cV75, m_why1, bd_eq, if_neg (by decide), cV75, m_no, bd_eq]
  · have g12 := hM.1.1.2.2.1
    have hC0 := hC
    have hC := hC.rf 0
    have hM := hM.gd
    have u2' : gd m 75 14 = 1 := by rw [gd_14]; exact u2
    obtain ⟨hv, hw, g, hV, gk, hK, h2⟩ := id hC
    rcases n_dec x (V 20 2) (by omega) with ⟨k, hk, rfl⟩ | hx
    · rcases n_dec y 4 (by omega) with ⟨q, hq, rfl⟩ | hy
      · obtain ⟨c1, d1, f1, k1, s1⟩ := c_trialOf (c := rf c 0) (j := j) (w := w) (m := m) (n := n) now_K (by decide) g hK (RS_all g h2)
        have k2 := RK_put k1 (k := k) (q := q)
        generalize hxx : upd (c1 65) (k * 3 + 1) (nI q) = xx at k2
        have q1 : fr (rf c 0) (va_up c1 65 xx) := fun y hy => by rw [vup_ne _ _ (by omega)]; exact f1 y (by omega)
        have s2 : RS (va_up c1 65 xx) 63 V allS := fun i hi => by rw [vup_ne _ _ (by omega)]; exact s1 i hi
        have gk' : GK V (KC K k q) := GKC gk hq
        obtain ⟨c2, c3, d2, d3, f3, f2⟩ := c_recStrike (c := va_up c1 65 xx) (j := j) (w := w) (m := m) (n := n) hv hw g gk' (GE1 g) (hC.fr q1).2.2.2.1 trial_K k2 s2 false
        obtain ⟨m1, e1, l1, -, t1, rc1⟩ := m_ldS (c := c3) (j := j) (w := w) (m := gd m) (n := n) hM
        have p2 := MK_put t1.2.2.2.2.1 g (k := k) (q := q) hk
        generalize hyy : upd (m1 85) k (nI q) = yy at p2
        have hV2 : MV (va_up m1 85 yy) 78 V := t1.2.2.2.1.fr (vup_ne _ _ (by omega))
        obtain ⟨m2, e2, l2, r2⟩ := m_sailX (c := c3) (j := j) (w := w) (m := va_up m1 85 yy) (n := n) (S := allS) g gk' (GE1 g) hV2 p2 (ME_85 t1.2.2.2.2.2.1 yy) (RC_85 rc1 yy) (RD_85 t1.2.2.2.2.2.2 yy) (Nat.le_refl _)
        have hst := m_struck (c := c3) (j := j) (w := w) (m := m2) (n := n) g (hV2.fr (l2.1 78 (by omega) (by omega))) (fun k hk => Nat.le_trans (stl_le g gk' (GE1 g) hk) (by omega)) r2
        refine CALL.yes I (c' := c3) (m' := m2) (j' := j) (n' := n) (q1.tr (frl f3)) ((ls_85 l1 yy).tr l2).mf (r := iI (stk V (KC K k q) (stl V (KC K k q) (V 1)) allS false)) ?_ ?_
        · unfold X10_strikesIf
          rw [cV0, c_hasW1 hC0 rfl u1 hk, bd_eq, c_course1 hq, bd_eq, c_why0, bd_eq, cV0, c_ref0, bd_eq, if_pos rfl, F0_5, ob_some, F0_2, ob_some, cV59, d1, bd_eq, K_0 trial_K, ob_some, cVv_eq (T_is (K_wats trial_K)), T_put1 (K_wats trial_K) (by omega) (by omega), ob_some, hxx, F0_5, ob_some, cVv59, d2, ob_some, F0_5, ob_some, cV59, show X6_firstStrike 59 63 0 (enc c2 j w m n) = _ from d3, bd_eq]
        · unfold X11_strikesIf
          rw [cVv75, m_good, ob_some, cV75, m_isW1 hM u2' hk, bd_eq, show X11_in (nI q) 0 3 (enc c3 j w (gd m) n) = _ from m_in1 (a := 0) (b := 3) (by omega) (by omega) (by omega) _, bd_eq, cV75, m_why0, bd_eq, if_pos rfl, R75_19, ob_some, cVv75, e1, ob_some, R75_24, ob_some, S85 (by omega), ob_some, hyy, R75_15, ob_some, rW hV2, ob_some, cVv75, e2, ob_some, cV75, hst, bd_eq]
      · refine CALL.no I (x := 2) (r := -1) (by decide) ?_ ?_
        · unfold X10_strikesIf
          rw [cV0, c_hasW1 hC0 rfl u1 hk, bd_eq, c_course0 hy, bd_eq, c_why2, bd_eq, cV0, c_ref1 (by decide), bd_eq, if_neg (by decide)]
        · unfold X11_strikesIf
          rw [cVv75, m_good, ob_some, cV75, m_isW1 hM u2' hk, bd_eq, show X11_in y 0 3 (enc (rf c 2) j w (gd m) n) = _ from m_in0 (b := 3) (by omega) hy _, bd_eq, cV75, m_why2, bd_eq, if_neg (by decide), cV75, m_no, bd_eq]
    · refine CALL.no I (x := 1) (r := -1) (by decide) ?_ ?_
      · obtain ⟨r, er⟩ := c_courseX y (enc c j w m n)
        unfold X10_strikesIf
        rw [cV0, c_hasW0 hC0 rfl u1 hx, bd_eq, er, bd_eq, c_why1, bd_eq, cV0, c_ref1 (by decide), bd_eq, if_neg (by decide)]
      · unfold X11_strikesIf
        rw [cVv75, m_good, ob_some, cV75, m_isW0 hM u2' hx, bd_eq, m_in, bd_eq, cV75, m_why1, bd_eq, if_neg (by decide), cV75, m_no, bd_eq]
theorem k_attendFor (I : INV c w m) (x : Int32) : CALL (X10_attendFor 0 x) (X11_attendFor 75 x) c j w m n := by
  obtain ⟨B, ⟨u1, u2, -⟩ | ⟨u1, u2, V, K, hC, hM, -, -⟩⟩ := id I
  · refine CALL.no I (x := 1) (r := -1) (by decide) ?_ ?_
    · unfold X10_attendFor X10_attendFor_B20
      rw [F0_11, ob_some, u1, c_afR, c_afR]
      simp only [ite_self]
    · unfold X11_attendFor
      rw [cVv75, m_good, ob_some, I75_14, ob_some, gd_14, u2, m_in, bd_eq, cV75, m_why1, bd_eq, if_neg (by decide), cV75, m_no, bd_eq]
  · have hC0 := hC
    have hC := hC.rf 0
    have hM := hM.gd
    have u2' : gd m 75 14 = 1 := by rw [gd_14]; exact u2
    obtain ⟨hv, hw, g, hV, gk, hK, h2⟩ := id hC
    rcases n_dec x 1000 (by omega) with ⟨mi, hmi, rfl⟩ | hx
    · obtain ⟨c1, d1, f1⟩ := c_fewest (c := rf c 0) (j := j) (w := w) (m := m) (n := n) hC (mi := mi) (by omega)
      obtain ⟨m1, m2, A, hA, hA2, e1, e2, l2⟩ := m_attFor (c := c1) (j := j) (w := w) (m := gd m) (n := n) hM (mi := mi) (by omega)
      rw [← few_bst g gk hA2] at e2
      refine CALL.yes I (c' := c1) (m' := m2) (j' := j) (n' := n) f1 l2 (r := iI (fewS V K mi)) ?_ ?_
      · unfold X10_attendFor X10_attendFor_B21
        rw [F0_11, ob_some, u1, if_neg (by rw [N_lt0 (by omega)]; exact id), show (999 : Int32) = nI 999 from rfl, if_neg (by rw [N_lt (by omega) (by omega)]; omega), c_why0, bd_eq, cV0, c_ref0, bd_eq, if_pos rfl, F0_6, ob_some, F0_2, ob_some, cV_eq F68_is, d1, bd_eq]
      · unfold X11_attendFor
        rw [cVv75, m_good, ob_some, I75_14, ob_some, u2', show X11_in (nI mi) 0 999 (enc c1 j w (gd m) n) = _ from m_in1 (a := 0) (b := 999) (by omega) (by omega) (by omega) _, bd_eq, cV75, m_why0, bd_eq, if_pos rfl, R75_19, ob_some, cVv75, e1, ob_some, e2]
    · refine CALL.no I (x := 2) (r := -1) (by decide) ?_ ?_
      · unfold X10_attendFor X10_attendFor_B20
        rw [F0_11, ob_some, u1]
        rcases out_lt (by omega) hx with q | ⟨q1, q2⟩
        · rw [if_pos q, c_af2]
        · rw [if_neg q1, if_pos (show (999 : Int32) < x from q2), c_af2]
      · unfold X11_attendFor
        rw [cVv75, m_good, ob_some, I75_14, ob_some, u2', show X11_in x 0 999 (enc (rf c 2) j w (gd m) n) = _ from m_in0 (b := 999) (by omega) hx _, bd_eq, cV75, m_why2, bd_eq, if_neg (by decide), cV75, m_no, bd_eq]
theorem bits12 {s : Nat} (hs : s < 65536) : ∀ k, k < 12 → ((nI s >>> (nI k &&& 31)) &&& 1) = (if bits s k then 1 else 0) := fun k hk => N_bit (by omega) (by omega)
theorem k_stolenIf (I : INV c w m) (x : Int32) : CALL (X10_stolenIf 0 x) (X11_stolenIf 75 x) c j w m n := by
  obtain ⟨B, ⟨u1, u2, -⟩ | ⟨u1, u2, V, K, hC, hM, -, -⟩⟩ := id I
  · have hv : isV (w 0) := BS_w B
    refine CALL.no I (x := 1) (r := -1) (by decide) ?_ ?_
    · unfold X10_stolenIf X10_stolenIf_B29
      rw [F0_11, ob_some, u1, F0_9, ob_some, V_2 hv, ob_some, T_count (V_wats hv), ob_some, c_siR, c_siR]
      simp only [ite_self]
    · unfold X11_stolenIf X11_stolenIf_B32 X11_stolenIf_B33
      rw [cVv75, m_good, ob_some, I75_14, ob_some, ob_some, gd_14, u2, if_pos rfl, cV75, m_why1, bd_eq, if_neg (by decide), cV75, m_no, bd_eq]
  · have hC0 := hC
    have hC := hC.rf 0
    have hM := hM.gd
    have u2' : gd m 75 14 = 1 := by rw [gd_14]; exact u2
    obtain ⟨hv, hw, g, hV, gk, hK, h2⟩ := id hC
    have g12 := g.1.2.2.1
    have hp := pow12 g
    have hp1 := Nat.one_le_two_pow (n := V 20 2)
    have sh : (1 : Int32) <<< (nI (V 20 2) &&& 31) = nI (2 ^ V 20 2) := by rw [show (1 : Int32) = nI 1 from rfl, N_shl (by omega), Nat.one_shiftLeft]
    rcases n_dec x (2 ^ V 20 2) (by omega) with ⟨s, hs, rfl⟩ | hx
    · obtain ⟨c1, d1, f1⟩ := c_stolenWith (c := rf c 0) (j := j) (w := w) (m := m) (n := n) hC (bi := nI s) (B := bits s) (bits12 (by omega))
      obtain ⟨m1, e1, l1⟩ := m_stolenWith (c := c1) (j := j) (w := w) (m := gd m) (n := n) hM (B := s) (by omega)
      refine CALL.yes I (c' := c1) (m' := m1) (j' := j) (n' := n) f1 l1 (r := nI (swS V K (bits s))) ?_ ?_
      · unfold X10_stolenIf X10_stolenIf_B30
        rw [F0_11, ob_some, u1, if_neg (by rw [N_lt0 (by omega)]; exact id), F0_9, ob_some, V_2 hv, ob_some, c_cW hC0 rfl, ob_some, sh, if_neg (by rw [N_le (by omega) (by omega)]; omega), c_why0, bd_eq, cV0, c_ref0, bd_eq, if_pos rfl, F0_6, ob_some, F0_2, ob_some, cV_eq F68_is, d1, bd_eq]
      · unfold X11_stolenIf X11_stolenIf_B33
        rw [cVv75, m_good, ob_some, I75_14, ob_some, ob_some, u2', if_neg (by decide), cV75, m_allW g hM.2.2.1, bd_eq, show X11_in (nI s) 0 (nI (2 ^ V 20 2 - 1)) (enc c1 j w (gd m) n) = _ from m_in1 (a := 0) (by omega) (by omega) (by omega) _, bd_eq, if_neg (by decide), cV75, m_why0, bd_eq, if_pos rfl, cV75, e1, bd_eq]
    · refine CALL.no I (x := 2) (r := -1) (by decide) ?_ ?_
      · unfold X10_stolenIf X10_stolenIf_B29
        rw [F0_11, ob_some, u1]
        rcases hx with q | ⟨q1, q2⟩
        · rw [if_pos q, c_si2]
        · rw [if_neg q1, F0_9, ob_some, V_2 hv, ob_some, c_cW hC0 rfl, ob_some, sh, if_pos q2, c_si2]
      · unfold X11_stolenIf X11_stolenIf_B32 X11_stolenIf_B33
        rw [cVv75, m_good, ob_some, I75_14, ob_some, ob_some, u2', if_neg (by decide), cV75, m_allW g hM.2.2.1, bd_eq, m_in0 (b := 2 ^ V 20 2 - 1) (by omega) (by rw [show 2 ^ V 20 2 - 1 + 1 = 2 ^ V 20 2 by omega]; exact hx), bd_eq, if_pos rfl, cV75, m_why2, bd_eq, if_neg (by decide), cV75, m_no, bd_eq]
theorem c_port1 {q : Nat} (hq : q < 10) (h : Hp) : X10_isPort (nI q) h = some (1, h) := by
  unfold X10_isPort
  rw [if_neg (by rw [N_lt0 (by omega)]; exact id), show (9 : Int32) = nI 9 from rfl, if_neg (by rw [N_lt (by omega) (by omega)]; omega), rZ_1]
theorem c_port0 {x : Int32} (hx : x < 0 ∨ (¬ x < 0 ∧ nI 10 ≤ x)) (h : Hp) : X10_isPort x h = some (0, h) := by
  unfold X10_isPort
  rcases out_lt (by omega) hx with q | ⟨q1, q2⟩
  · rw [if_pos q, rZ_0]
  · rw [if_neg q1, if_pos (show (9 : Int32) < x from q2), rZ_0]
theorem c_portX (x : Int32) (h : Hp) : ∃ r, X10_isPort x h = some (r, h) := by
  rcases n_dec x 10 (by omega) with ⟨q, hq, rfl⟩ | hx
  · exact ⟨1, c_port1 hq h⟩
  · exact ⟨0, c_port0 hx h⟩
theorem k_steals (I : INV c w m) (x : Int32) (a b d : Bool) : CALL (X10_steals 0 x (bI a) (bI b) (bI d)) (X11_steals 75 x (bI a) (bI b) (bI d)) c j w m n := by
  obtain ⟨B, ⟨u1, u2, -⟩ | ⟨u1, u2, V, K, hC, hM, -, -⟩⟩ := id I
  · refine CALL.no I (x := 1) (r := -100) (by decide) ?_ ?_
    · obtain ⟨r, er⟩ := c_portX x (enc c j w m n)
      unfold X10_steals
      rw [F0_11, ob_some, u1, er, bd_eq, c_why1, bd_eq, cV0, c_ref1 (by decide), bd_eq, if_neg (by decide)]
    · unfold X11_steals
      rw [cVv75, m_good, ob_some, I75_14, ob_some, gd_14, u2, m_in, bd_eq, cV75, m_why1, bd_eq, if_neg (by decide), P75_11, ob_some]
      rfl
  · have u2' : gd m 75 14 = 1 := by rw [gd_14]; exact u2
    rcases n_dec x 10 (by omega) with ⟨p, hp, rfl⟩ | hx
    · refine CALL.yes I (c' := rf c 0) (m' := gd m) (j' := j) (n' := n) (fr.rf _) (mf.rf _) (r := if d then iI (stS p b a) else iI (stS p a b)) ?_ ?_
      · unfold X10_steals
        rw [F0_11, ob_some, u1, c_port1 hp, bd_eq, c_why0, bd_eq, cV0, c_ref0, bd_eq, if_pos rfl, c_share, bd_eq, c_share, bd_eq]
        cases d <;> rfl
      · unfold X11_steals
        rw [cVv75, m_good, ob_some, I75_14, ob_some, u2', show X11_in (nI p) 0 9 (enc (rf c 0) j w (gd m) n) = _ from m_in1 (a := 0) (b := 9) (by omega) (by omega) (by omega) _, bd_eq, cV75, m_why0, bd_eq, if_pos rfl, m_share, bd_eq, m_share, bd_eq]
        cases d <;> rfl
    · refine CALL.no I (x := 2) (r := -100) (by decide) ?_ ?_
      · unfold X10_steals
        rw [F0_11, ob_some, u1, c_port0 hx, bd_eq, c_why2, bd_eq, cV0, c_ref1 (by decide), bd_eq, if_neg (by decide)]
      · unfold X11_steals
        rw [cVv75, m_good, ob_some, I75_14, ob_some, u2', show X11_in x 0 9 (enc (rf c 2) j w (gd m) n) = _ from m_in0 (b := 9) (by omega) hx _, bd_eq, cV75, m_why2, bd_eq, if_neg (by decide), P75_11, ob_some]
        rfl
theorem k_rests (I : INV c w m) (x : Int32) : CALL (X10_rests 0 x) (X11_rests 75 x) c j w m n := by
  obtain ⟨B, ⟨u1, u2, -⟩ | ⟨u1, u2, V, K, hC, hM, -, -⟩⟩ := id I
  · refine CALL.no I (x := 1) (r := -1) (by decide) ?_ ?_
    · obtain ⟨r, er⟩ := c_portX x (enc c j w m n)
      unfold X10_rests
      rw [F0_11, ob_some, u1, er, bd_eq, c_why1, bd_eq, cV0, c_ref1 (by decide), bd_eq, if_neg (by decide)]
    · unfold X11_rests
      rw [cVv75, m_good, ob_some, I75_14, ob_some, gd_14, u2, m_in, bd_eq, cV75, m_why1, bd_eq, if_neg (by decide), cV75, m_no, bd_eq]
  · have u2' : gd m 75 14 = 1 := by rw [gd_14]; exact u2
    rcases n_dec x 10 (by omega) with ⟨p, hp, rfl⟩ | hx
    · obtain ⟨m1, e1, l1, -⟩ := m_seekRests (c := rf c 0) (j := j) (w := w) (m := gd m) (n := n) hp
      refine CALL.yes I (c' := rf c 0) (m' := m1) (j' := j) (n' := n) (fr.rf _) l1 (r := nI (cnt (rsB p) 4)) ?_ ?_
      · unfold X10_rests
        rw [F0_11, ob_some, u1, c_port1 hp, bd_eq, c_why0, bd_eq, cV0, c_ref0, bd_eq, if_pos rfl, c_restsL hp]
      · unfold X11_rests
        rw [cVv75, m_good, ob_some, I75_14, ob_some, u2', show X11_in (nI p) 0 9 (enc (rf c 0) j w (gd m) n) = _ from m_in1 (a := 0) (b := 9) (by omega) (by omega) (by omega) _, bd_eq, cV75, m_why0, bd_eq, if_pos rfl, cV75, e1, bd_eq]
    · refine CALL.no I (x := 2) (r := -1) (by decide) ?_ ?_
      · unfold X10_rests
        rw [F0_11, ob_some, u1, c_port0 hx, bd_eq, c_why2, bd_eq, cV0, c_ref1 (by decide), bd_eq, if_neg (by decide)]
      · unfold X11_rests
        rw [cVv75, m_good, ob_some, I75_14, ob_some, u2', show X11_in x 0 9 (enc (rf c 2) j w (gd m) n) = _ from m_in0 (b := 9) (by omega) hx _, bd_eq, cV75, m_why2, bd_eq, if_neg (by decide), cV75, m_no, bd_eq]
theorem k_rest (I : INV c w m) (x : Int32) : CALL (X10_rest 0 x) (X11_rest 75 x) c j w m n := by
  obtain ⟨B, ⟨u1, u2, -⟩ | ⟨u1, u2, V, K, hC, hM, -, -⟩⟩ := id I
  · refine CALL.no I (x := 1) (r := -1) (by decide) ?_ ?_
    · obtain ⟨r, er⟩ := c_portX x (enc c j w m n)
      unfold X10_rest
      rw [F0_11, ob_some, u1, er, bd_eq, c_why1, bd_eq, cV0, c_ref1 (by decide), bd_eq, if_neg (by decide)]
    · unfold X11_rest
      rw [cVv75, m_good, ob_some, I75_14, ob_some, gd_14, u2, m_in, bd_eq, cV75, m_why1, bd_eq, if_neg (by decide), cV75, m_no, bd_eq]
  · have u2' : gd m 75 14 = 1 := by rw [gd_14]; exact u2
    rcases n_dec x 10 (by omega) with ⟨p, hp, rfl⟩ | hx
    · obtain ⟨m1, e1, l1, s1⟩ := m_seekRests (c := rf c 0) (j := j) (w := w) (m := gd m) (n := n) hp
      refine CALL.yes I (c' := rf c 0) (m' := m1) (j' := j) (n' := n) (fr.rf _) l1 (r := iI (rsF p)) ?_ ?_
      · unfold X10_rest
        rw [F0_11, ob_some, u1, c_port1 hp, bd_eq, c_why0, bd_eq, cV0, c_ref0, bd_eq, if_pos rfl, c_restL hp]
      · unfold X11_rest
        rw [cVv75, m_good, ob_some, I75_14, ob_some, u2', show X11_in (nI p) 0 9 (enc (rf c 0) j w (gd m) n) = _ from m_in1 (a := 0) (b := 9) (by omega) (by omega) (by omega) _, bd_eq, cV75, m_why0, bd_eq, if_pos rfl, cV75, e1, bd_eq, I75_44, ob_some, s1]
    · refine CALL.no I (x := 2) (r := -1) (by decide) ?_ ?_
      · unfold X10_rest
        rw [F0_11, ob_some, u1, c_port0 hx, bd_eq, c_why2, bd_eq, cV0, c_ref1 (by decide), bd_eq, if_neg (by decide)]
      · unfold X11_rest
        rw [cVv75, m_good, ob_some, I75_14, ob_some, u2', show X11_in x 0 9 (enc (rf c 2) j w (gd m) n) = _ from m_in0 (b := 9) (by omega) hx _, bd_eq, cV75, m_why2, bd_eq, if_neg (by decide), cV75, m_no, bd_eq]
end
