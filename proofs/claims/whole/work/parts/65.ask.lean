/-! the calls: still more questions -/
section
variable {c : Nat → Nat → Int32} {j : Nat → Nat → Int64} {w : Nat → Nat} {m : Nat → Nat → Int32} {n : Nat → Nat → Int64} {V K : Nat → Nat → Nat}
theorem m_att (h : MN m V K) {k : Nat} (hk : k < V 20 2) : ∃ M, M < 4096 ∧ aI (enc c j w m n) 82 24 = some (nI M) ∧ (nI M >>> (nI k &&& 31)) &&& 1 = nI (K 2 k) := by
  have g12 := h.1.1.2.2.1
  obtain ⟨k1, M, hM, k2, k3⟩ := h.2.2.2.2
  refine ⟨M, hM, ?_, ?_⟩
  · rw [show (24 : Int32) = nI 24 from rfl, M82 (by omega), show m 82 24 = nI M from k2]
  · rw [N_bit (by omega) (by omega), k3 k hk]
    have := (h.2.1 k hk).2.2
    match hq : K 2 k, this with
    | 0, _ => rfl
    | 1, _ => rfl
    | q + 2, z => omega
theorem k_watch (I : INV c w m) (x y : Int32) : CALL (X10_watch 0 x y) (X11_watch 75 x y) c j w m n := by
  obtain ⟨B, ⟨u1, u2, -⟩ | ⟨u1, u2, V, K, hC, hM, -, -⟩⟩ := id I
  · refine CALL.no I (x := 1) (r := -1) (by decide) ?_ ?_
    · unfold X10_watch X10_watch_B22 X10_watch_B23
      rw [cV0, c_hasWn u1, bd_eq, if_pos rfl, cV0, c_ref1 (by decide), bd_eq, if_neg (by decide)]
    · unfold X11_watch X11_watch_B21
      rw [cVv75, m_good, ob_some, cV75, m_isWn (by rw [gd_14]; exact u2), bd_eq, if_pos rfl, cV75, m_no, bd_eq]
  · have g12 := hM.1.1.2.2.1
    have hC0 := hC
    have hC := hC.rf 0
    have hM := hM.gd
    have u2' : gd m 75 14 = 1 := by rw [gd_14]; exact u2
    obtain ⟨hv, hw, g, hV, gk, hK, h2⟩ := id hC
    rcases n_dec x (V 20 2) (by omega) with ⟨k, hk, rfl⟩ | hx
    · rcases n_dec y 6 (by omega) with ⟨i, hi, rfl⟩ | hy
      · obtain ⟨m1, e1, l1, -, t1, -⟩ := m_ldS (c := rf c 0) (j := j) (w := w) (m := gd m) (n := n) hM
        have hM1 := hM.mf l1.mf
        have F : ∀ r, X10_watch_B23 0 (nI k) (nI i) 0 0 (enc c j w m n) = some (r, enc (rf c 0) j w m n) → (X11_watch 75 (nI k) (nI i) (enc (rf c 0) j w m n) = some (r, enc (rf c 0) j w m1 n)) → CALL (X10_watch 0 (nI k) (nI i)) (X11_watch 75 (nI k) (nI i)) c j w m n := fun r a b => by
          refine CALL.yes I (c' := rf c 0) (m' := m1) (j' := j) (n' := n) (fr.rf _) l1.mf (r := r) ?_ b
          unfold X10_watch
          rw [cV0, c_hasW1 hC0 rfl u1 hk, bd_eq, if_neg (by decide), if_neg (by rw [N_lt0 (by omega)]; exact id), if_neg (by rw [show (5 : Int32) = nI 5 from rfl, N_lt (by omega) (by omega)]; omega)]
          exact a
        have G : X11_watch 75 (nI k) (nI i) (enc (rf c 0) j w m n) = (if nI i = 0 then some (nI (K 0 k), enc (rf c 0) j w m1 n) else if nI i = 1 then some (nI (V 3 k), enc (rf c 0) j w m1 n) else if nI i = 2 then some (nI (K 1 k), enc (rf c 0) j w m1 n) else if nI i = 3 then some (nI (V 4 k), enc (rf c 0) j w m1 n) else if nI i = 4 then some (nI (K 2 k), enc (rf c 0) j w m1 n) else some (nI (lkOf V K k), enc (rf c 0) j w m1 n)) := by
          obtain ⟨M, hM4, a1, a2⟩ := m_att (c := rf c 0) (j := j) (w := w) (n := n) hM1 hk
          have hw2 := hM1.2.2.1.2.2.2.2.1 k hk
          unfold X11_watch
          rw [cVv75, m_good, ob_some, cV75, m_isW1 hM u2' hk, bd_eq, if_neg (by decide), show X11_in (nI i) 0 5 (enc (rf c 0) j w (gd m) n) = _ from m_in1 (a := 0) (b := 5) (by omega) (by omega) (by omega) _, bd_eq, if_neg (by decide), R75_19, ob_some, cVv75, e1, ob_some, R75_19, ob_some, m_stWho hM1 hk, ob_some, R75_15, ob_some, show (26 : Int32) + 2 * nI k = nI (26 + 2 * k) from IX 26 k, M78 (by omega), ob_some, ob_some, m_stCourse hM1 hk, ob_some, ob_some, show nI (26 + 2 * k) + 1 = nI (26 + 2 * k + 1) from N_add _ 1, M78 (by omega), ob_some, ob_some, a1, ob_some, a2, cV75, m_looks g gk hM1.2.2.1 t1.2.2.2.2.1 hk, bd_eq, hw2.1, hw2.2]
        match i, hi with
        | 0, _ =>
          refine F (nI (K 0 k)) ?_ (by rw [G]; rfl)
          unfold X10_watch_B23
          rw [cV0, c_ref0, bd_eq, if_pos rfl, if_pos (by rfl), F0_2, ob_some, K_0 now_K, ob_some, cV_eq (T_is (K_wats now_K)), T_cell0 (K_wats now_K) (by omega) (by omega), bd_eq, (hK.1 k hk).1]
        | 1, _ =>
          refine F (nI (V 3 k)) ?_ (by rw [G]; rfl)
          unfold X10_watch_B23
          rw [cV0, c_ref0, bd_eq, if_pos rfl, if_neg (by decide), if_pos (by rfl), F0_9, ob_some, V_2 hv, ob_some, cV_eq (T_is (V_wats hv)), T_cell1 (V_wats hv) (by omega) (by omega), bd_eq, (hV.2.2.2.2.1 k hk).2.1]
        | 2, _ =>
          refine F (nI (K 1 k)) ?_ (by rw [G]; rfl)
          unfold X10_watch_B23
          rw [cV0, c_ref0, bd_eq, if_pos rfl, if_neg (by decide), if_neg (by decide), if_pos (by rfl), F0_2, ob_some, K_0 now_K, ob_some, cV_eq (T_is (K_wats now_K)), T_cell1 (K_wats now_K) (by omega) (by omega), bd_eq, (hK.1 k hk).2.1]
        | 3, _ =>
          refine F (nI (V 4 k)) ?_ (by rw [G]; rfl)
          unfold X10_watch_B23
          rw [cV0, c_ref0, bd_eq, if_pos rfl, if_neg (by decide), if_neg (by decide), if_neg (by decide), if_pos (by rfl), F0_9, ob_some, V_2 hv, ob_some, cV_eq (T_is (V_wats hv)), T_cell3 (V_wats hv) (by omega) (by omega), bd_eq, (hV.2.2.2.2.1 k hk).2.2.2]
        | 4, _ =>
          refine F (nI (K 2 k)) ?_ (by rw [G]; rfl)
          unfold X10_watch_B23
          rw [cV0, c_ref0, bd_eq, if_pos rfl, if_neg (by decide), if_neg (by decide), if_neg (by decide), if_neg (by decide), if_pos (by rfl), F0_2, ob_some, K_0 now_K, ob_some, cV_eq (T_is (K_wats now_K)), T_cell2 (K_wats now_K) (by omega) (by omega), bd_eq, (hK.1 k hk).2.2]
        | 5, _ =>
          refine F (nI (lkOf V K k)) ?_ (by rw [G]; rfl)
          unfold X10_watch_B23
          rw [cV0, c_ref0, bd_eq, if_pos rfl, if_neg (by decide), if_neg (by decide), if_neg (by decide), if_neg (by decide), if_neg (by decide), F0_5, ob_some, F0_2, ob_some, cV59, c_looks hv hw now_K g gk hV hK hk, bd_eq]
        | i + 6, z => omega
      · refine CALL.no I (x := 1) (r := -1) (by decide) ?_ ?_
        · unfold X10_watch X10_watch_B22 X10_watch_B23
          rw [cV0, c_hasW1 hC0 rfl u1 hk, bd_eq, if_neg (by decide)]
          rcases out_lt (by omega) hy with q | ⟨q1, q2⟩
          · rw [if_pos q, cV0, c_ref1 (by decide), bd_eq, if_neg (by decide)]
          · rw [if_neg q1, if_pos (show (5 : Int32) < y from q2), cV0, c_ref1 (by decide), bd_eq, if_neg (by decide)]
        · unfold X11_watch X11_watch_B21
          rw [cVv75, m_good, ob_some, cV75, m_isW1 hM u2' hk, bd_eq, if_neg (by decide), show X11_in y 0 5 (enc (rf c 1) j w (gd m) n) = _ from m_in0 (b := 5) (by omega) hy _, bd_eq, if_pos rfl, cV75, m_no, bd_eq]
    · refine CALL.no I (x := 1) (r := -1) (by decide) ?_ ?_
      · unfold X10_watch X10_watch_B22 X10_watch_B23
        rw [cV0, c_hasW0 hC0 rfl u1 hx, bd_eq, if_pos rfl, cV0, c_ref1 (by decide), bd_eq, if_neg (by decide)]
      · unfold X11_watch X11_watch_B21
        rw [cVv75, m_good, ob_some, cV75, m_isW0 hM u2' hx, bd_eq, if_pos rfl, cV75, m_no, bd_eq]
theorem k_boy (I : INV c w m) (x y : Int32) : CALL (X10_boy 0 x y) (X11_boy 75 x y) c j w m n := by
  obtain ⟨B, ⟨u1, u2, -⟩ | ⟨u1, u2, V, K, hC, hM, -, -⟩⟩ := id I
  · refine CALL.no I (x := 1) (r := -1) (by decide) ?_ ?_
    · unfold X10_boy X10_boy_B22 X10_boy_B23
      rw [cV0, c_hasBn u1, bd_eq, if_pos rfl, cV0, c_ref1 (by decide), bd_eq, if_neg (by decide)]
    · unfold X11_boy X11_boy_B21
      rw [cVv75, m_good, ob_some, cV75, m_isBn (by rw [gd_14]; exact u2), bd_eq, if_pos rfl, cV75, m_no, bd_eq]
  · have g5 := hM.1.1.1
    have g12 := hM.1.1.2.2.1
    have hC0 := hC
    have hC := hC.rf 0
    have hM := hM.gd
    have u2' : gd m 75 14 = 1 := by rw [gd_14]; exact u2
    obtain ⟨hv, hw, g, hV, gk, hK, h2⟩ := id hC
    rcases n_dec x (V 20 0) (by omega) with ⟨b, hb, rfl⟩ | hx
    · rcases n_dec y 4 (by omega) with ⟨i, hi, rfl⟩ | hy
      · obtain ⟨m1, e1, l1, r1⟩ := m_sailNow (c := rf c 0) (j := j) (w := w) (m := gd m) (n := n) hM
        have hM1 := hM.mf l1.mf
        have hb2 := hM1.2.2.1.2.2.1 b hb
        have H : X11_boy 75 (nI b) (nI i) (enc (rf c 0) j w m n) = (if 2 ≤ nI i then (if nI i = 2 then some (nI (fm (fun k => K 0 k == b) (V 20 2)), enc (rf c 0) j w m1 n) else some (nI (oS V K b), enc (rf c 0) j w m1 n)) else (aI (enc (rf c 0) j w m1 n) 78 (12 + 2 * nI b + nI i)).bind fun v12 => some (v12, enc (rf c 0) j w m1 n)) := by
          unfold X11_boy
          rw [cVv75, m_good, ob_some, cV75, m_isB1 hM u2' hb, bd_eq, if_neg (by decide), show X11_in (nI i) 0 3 (enc (rf c 0) j w (gd m) n) = _ from m_in1 (a := 0) (b := 3) (by omega) (by omega) (by omega) _, bd_eq, if_neg (by decide), cVv75, e1, ob_some, cV75, m_watchesOf hM1 hb, bd_eq, cV75, m_stoleOf hM1 r1.1 hb, bd_eq, R75_15, ob_some]
        have F : ∀ r, X10_boy_B23 0 (nI b) (nI i) 0 0 (enc c j w m n) = some (r, enc (rf c 0) j w m n) → (X11_boy 75 (nI b) (nI i) (enc (rf c 0) j w m n) = some (r, enc (rf c 0) j w m1 n)) → CALL (X10_boy 0 (nI b) (nI i)) (X11_boy 75 (nI b) (nI i)) c j w m n := fun r a b' => by
          refine CALL.yes I (c' := rf c 0) (m' := m1) (j' := j) (n' := n) (fr.rf _) l1.mf (r := r) ?_ b'
          unfold X10_boy
          rw [cV0, c_hasB1 hC0 rfl u1 hb, bd_eq, if_neg (by decide), if_neg (by rw [N_lt0 (by omega)]; exact id), if_neg (by rw [show (3 : Int32) = nI 3 from rfl, N_lt (by omega) (by omega)]; omega)]
          exact a
        match i, hi with
        | 0, _ =>
          refine F (nI (V 0 b)) ?_ ?_
          · unfold X10_boy_B23
            rw [cV0, c_ref0, bd_eq, if_pos rfl, if_pos (by rfl), F0_9, ob_some, V_0 hv, ob_some, cV_eq (T_is (V_boys hv)), T_cell0 (V_boys hv) (by omega) (by omega), bd_eq, (hV.2.2.1 b hb).1]
          · rw [H, if_neg (by decide), show (12 : Int32) + 2 * nI b + nI 0 = nI (12 + 2 * b) by rw [show (12 : Int32) + 2 * nI b = nI (12 + 2 * b) from IX 12 b, N_add]; rfl, M78 (by omega), ob_some, hb2.1]
        | 1, _ =>
          refine F (nI (V 1 b)) ?_ ?_
          · unfold X10_boy_B23
            rw [cV0, c_ref0, bd_eq, if_pos rfl, if_neg (by decide), if_pos (by rfl), F0_9, ob_some, V_0 hv, ob_some, cV_eq (T_is (V_boys hv)), T_cell1 (V_boys hv) (by omega) (by omega), bd_eq, (hV.2.2.1 b hb).2]
          · rw [H, if_neg (by decide), show (12 : Int32) + 2 * nI b + nI 1 = nI (12 + 2 * b + 1) from IX1 12 b, M78 (by omega), ob_some, hb2.2]
        | 2, _ =>
          refine F (nI (fm (fun k => K 0 k == b) (V 20 2))) ?_ (by rw [H]; rfl)
          unfold X10_boy_B23
          rw [cV0, c_ref0, bd_eq, if_pos rfl, if_neg (by decide), if_neg (by decide), if_pos (by rfl), F0_2, ob_some, K_0 now_K, ob_some, cV0, show X10_watchesWith 0 (35 + 1) 0 (nI b) (enc (rf c 0) j w m n) = _ from c_watchesWith hC rfl (K_wats now_K) (q := 0) (f := K 0) (by omega) (by omega) (fun k hk => ⟨(hK.1 k hk).1, by have := (gk k hk).1; omega⟩) (by omega), bd_eq]
        | 3, _ =>
          refine F (nI (oS V K b)) ?_ (by rw [H]; rfl)
          unfold X10_boy_B23
          rw [cV0, c_ref0, bd_eq, if_pos rfl, if_neg (by decide), if_neg (by decide), if_neg (by decide), F0_5, ob_some, F0_2, ob_some, cV59, c_stolenOf hv hw now_K g gk (GE1 g) hV hK hb, bd_eq]
          rfl
        | i + 4, z => omega
      · refine CALL.no I (x := 1) (r := -1) (by decide) ?_ ?_
        · unfold X10_boy X10_boy_B22 X10_boy_B23
          rw [cV0, c_hasB1 hC0 rfl u1 hb, bd_eq, if_neg (by decide)]
          rcases out_lt (by omega) hy with q | ⟨q1, q2⟩
          · rw [if_pos q, cV0, c_ref1 (by decide), bd_eq, if_neg (by decide)]
          · rw [if_neg q1, if_pos (show (3 : Int32) < y from q2), cV0, c_ref1 (by decide), bd_eq, if_neg (by decide)]
        · unfold X11_boy X11_boy_B21
          rw [cVv75, m_good, ob_some, cV75, m_isB1 hM u2' hb, bd_eq, if_neg (by decide), show X11_in y 0 3 (enc (rf c 1) j w (gd m) n) = _ from m_in0 (b := 3) (by omega) hy _, bd_eq, if_pos rfl, cV75, m_no, bd_eq]
    · refine CALL.no I (x := 1) (r := -1) (by decide) ?_ ?_
      · unfold X10_boy X10_boy_B22 X10_boy_B23
        rw [cV0, c_hasB0 hC0 rfl u1 hx, bd_eq, if_pos rfl, cV0, c_ref1 (by decide), bd_eq, if_neg (by decide)]
      · unfold X11_boy X11_boy_B21
        rw [cVv75, m_good, ob_some, cV75, m_isB0 hM u2' hx, bd_eq, if_pos rfl, cV75, m_no, bd_eq]
theorem k_officer (I : INV c w m) (x y : Int32) : CALL (X10_officer 0 x y) (X11_officer 75 x y) c j w m n := by
  obtain ⟨B, ⟨u1, u2, -⟩ | ⟨u1, u2, V, K, hC, hM, -, -⟩⟩ := id I
  · refine CALL.no I (x := 1) (r := -1) (by decide) ?_ ?_
    · unfold X10_officer X10_officer_B29 X10_officer_B30 X10_officer_B49 X10_officer_B50
      rw [F0_11, ob_some, u1, if_pos rfl, if_pos rfl, cV0, c_ref1 (by decide), bd_eq, if_neg (by decide)]
    · unfold X11_officer X11_officer_B36
      rw [cVv75, m_good, ob_some, I75_14, ob_some, gd_14, u2, if_pos rfl, cV75, m_no, bd_eq]
  · have g4 := hM.1.1.2.1
    have hC0 := hC
    have hC := hC.rf 0
    have hM := hM.gd
    have u2' : gd m 75 14 = 1 := by rw [gd_14]; exact u2
    have gp := offs_pos hM
    obtain ⟨hv, hw, g, hV, gk, hK, h2⟩ := id hC
    rcases n_dec x (V 20 1) (by omega) with ⟨b, hb, rfl⟩ | hx
    · rcases n_dec y 2 (by omega) with ⟨i, hi, rfl⟩ | hy
      · match i, hi with
        | 0, _ =>
          refine CALL.yes I (c' := rf c 0) (m' := gd m) (j' := j) (n' := n) (fr.rf _) (mf.rf _) (r := nI (V 2 b)) ?_ ?_
          · unfold X10_officer X10_officer_B30 X10_officer_B45 X10_officer_B50
            rw [F0_11, ob_some, u1, if_neg (by decide), if_neg (by rw [N_lt0 (by omega)]; exact id), F0_9, ob_some, V_1 hv, ob_some, c_cO hC0 rfl, ob_some, if_neg (by rw [N_le (by omega) (by omega)]; omega), if_neg (by decide), if_pos (by rfl), cV0, c_ref0, bd_eq, if_pos rfl, if_pos (by rfl), F0_9, ob_some, V_1 hv, ob_some, cV_eq (T_is (V_offs hv)), T_cell0 (V_offs hv) (by omega) (by omega), bd_eq, (hV.2.2.2.1 b hb).1]
          · unfold X11_officer
            rw [cVv75, m_good, ob_some, I75_14, ob_some, u2', if_neg (by decide), R75_15, ob_some, rO hM.2.2.1, ob_some, nI_prd gp, show X11_in (nI b) 0 (nI (V 20 1 - 1)) (enc (rf c 0) j w (gd m) n) = _ from m_in1 (a := 0) (by omega) (by omega) (by omega) _, bd_eq, if_neg (by decide), show X11_in (nI 0) 0 1 (enc (rf c 0) j w (gd m) n) = _ from m_in1 (a := 0) (b := 1) (by omega) (by omega) (by omega) _, bd_eq, if_neg (by decide), if_pos (by rfl), R75_15, ob_some, show (22 : Int32) + nI b = nI (22 + b) from N_add 22 b, M78 (by omega), ob_some, hM.2.2.1.2.2.2.1 b hb]
        | 1, _ =>
          refine CALL.yes I (c' := rf c 0) (m' := gd m) (j' := j) (n' := n) (fr.rf _) (mf.rf _) (r := nI (fm (fun k => V 3 k == b) (V 20 2))) ?_ ?_
          · unfold X10_officer X10_officer_B30 X10_officer_B45 X10_officer_B50
            rw [F0_11, ob_some, u1, if_neg (by decide), if_neg (by rw [N_lt0 (by omega)]; exact id), F0_9, ob_some, V_1 hv, ob_some, c_cO hC0 rfl, ob_some, if_neg (by rw [N_le (by omega) (by omega)]; omega), if_neg (by decide), if_neg (by decide), if_pos (by rfl), cV0, c_ref0, bd_eq, if_pos rfl, if_neg (by decide), F0_9, ob_some, V_2 hv, ob_some, cV0, show X10_watchesWith 0 (w 0 + 5) 1 (nI b) (enc (rf c 0) j w m n) = _ from c_watchesWith hC rfl (V_wats hv) (q := 1) (f := V 3) (by omega) (by omega) (fun k hk => ⟨(hV.2.2.2.2.1 k hk).2.1, by have := (g.2.2.2.2.1 k hk).2.1; omega⟩) (by omega), bd_eq]
          · unfold X11_officer
            rw [cVv75, m_good, ob_some, I75_14, ob_some, u2', if_neg (by decide), R75_15, ob_some, rO hM.2.2.1, ob_some, nI_prd gp, show X11_in (nI b) 0 (nI (V 20 1 - 1)) (enc (rf c 0) j w (gd m) n) = _ from m_in1 (a := 0) (by omega) (by omega) (by omega) _, bd_eq, if_neg (by decide), show X11_in (nI 1) 0 1 (enc (rf c 0) j w (gd m) n) = _ from m_in1 (a := 0) (b := 1) (by omega) (by omega) (by omega) _, bd_eq, if_neg (by decide), if_neg (by decide), m_offL hM hb]
        | i + 2, z => omega
      · have n0 : y ≠ 0 := fun z => by rw [z] at hy; exact absurd hy (by decide)
        have n1 : y ≠ 1 := fun z => by rw [z] at hy; exact absurd hy (by decide)
        refine CALL.no I (x := 1) (r := -1) (by decide) ?_ ?_
        · unfold X10_officer X10_officer_B30 X10_officer_B49 X10_officer_B50
          rw [F0_11, ob_some, u1, if_neg (by decide), if_neg (by rw [N_lt0 (by omega)]; exact id), F0_9, ob_some, V_1 hv, ob_some, c_cO hC0 rfl, ob_some, if_neg (by rw [N_le (by omega) (by omega)]; omega), if_neg (by decide), if_neg n0, if_neg n1, cV0, c_ref1 (by decide), bd_eq, if_neg (by decide)]
        · unfold X11_officer X11_officer_B36
          rw [cVv75, m_good, ob_some, I75_14, ob_some, u2', if_neg (by decide), R75_15, ob_some, rO hM.2.2.1, ob_some, nI_prd gp, show X11_in (nI b) 0 (nI (V 20 1 - 1)) (enc (rf c 1) j w (gd m) n) = _ from m_in1 (a := 0) (by omega) (by omega) (by omega) _, bd_eq, if_neg (by decide), show X11_in y 0 1 (enc (rf c 1) j w (gd m) n) = _ from m_in0 (b := 1) (by omega) hy _, bd_eq, if_pos rfl, cV75, m_no, bd_eq]
    · refine CALL.no I (x := 1) (r := -1) (by decide) ?_ ?_
      · unfold X10_officer X10_officer_B29 X10_officer_B30 X10_officer_B49 X10_officer_B50
        rw [F0_11, ob_some, u1, if_neg (by decide)]
        rcases hx with q | ⟨q1, q2⟩
        · rw [if_pos q, if_pos rfl, cV0, c_ref1 (by decide), bd_eq, if_neg (by decide)]
        · rw [if_neg q1, F0_9, ob_some, V_1 hv, ob_some, c_cO hC0 rfl, ob_some, if_pos q2, if_pos rfl, cV0, c_ref1 (by decide), bd_eq, if_neg (by decide)]
      · unfold X11_officer X11_officer_B36
        rw [cVv75, m_good, ob_some, I75_14, ob_some, u2', if_neg (by decide), R75_15, ob_some, rO hM.2.2.1, ob_some, nI_prd gp, m_in0 (b := V 20 1 - 1) (by omega) (by rw [show V 20 1 - 1 + 1 = V 20 1 by omega]; exact hx), bd_eq, if_pos rfl, cV75, m_no, bd_eq]
end
