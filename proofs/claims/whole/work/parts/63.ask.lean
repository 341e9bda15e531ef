/-! the calls: questions -/
section
variable {c : Nat → Nat → Int32} {j : Nat → Nat → Int64} {w : Nat → Nat} {m : Nat → Nat → Int32} {n : Nat → Nat → Int64}
theorem cnt_zero {p : Nat → Bool} {N : Nat} : cnt p N = 0 ↔ ∀ i, i < N → p i = false := by
  constructor
  · intro h i hi
    cases e : p i with
    | false => rfl
    | true => have := rm_c e hi; omega
  · intro h
    have : cnt p N ≤ cnt (bits 0) N := cnt_sub fun k hk hp => by rw [h k hk] at hp; cases hp
    rw [cnt0] at this; omega
theorem anS_none {p : Nat → Bool} {a : Nat} : ∀ {N : Nat}, (∀ i, i < N → p i = false) → anS p a N = a
  | 0, _ => rfl
  | N + 1, h => by rw [anS, h N (by omega), if_neg (by decide)]; exact anS_none fun i hi => h i (by omega)
theorem k_thief (I : INV c w m) : CALL (X10_thief 0) (X11_thief 75) c j w m n := by
  obtain ⟨B, ⟨u1, u2, -⟩ | ⟨u1, u2, V, K, hC, hM, -, -⟩⟩ := id I
  · refine CALL.no I (x := 1) (r := -1) (by decide) ?_ ?_
    · unfold X10_thief
      rw [cV0, c_undern u1, bd_eq, cV0, c_ref1 (by decide), bd_eq, if_neg (by decide)]
    · unfold X11_thief
      rw [cVv75, m_good, ob_some, I75_14, ob_some, gd_14, u2, if_pos rfl, cV75, m_no, bd_eq]
  · have hC := hC.rf 0
    have hM := hM.gd
    obtain ⟨hv, hw, g, hV, gk, hK, h2⟩ := id hC
    obtain ⟨m1, e1, l1, r1⟩ := m_sailNow (c := rf c 0) (j := j) (w := w) (m := gd m) (n := n) hM
    have hM1 := hM.mf l1.mf
    refine CALL.yes I (c' := rf c 0) (m' := m1) (j' := j) (n' := n) (fr.rf _) (l1.mf) (r := iI (amx (oS V K) (V 20 0))) ?_ ?_
    · unfold X10_thief
      rw [cV0, c_under1 u1, bd_eq, cV0, c_ref0, bd_eq, if_pos rfl, c_thiefL hC rfl]
    · unfold X11_thief
      rw [cVv75, m_good, ob_some, I75_14, ob_some, gd_14, u2, if_neg (by decide), cVv75, e1, ob_some, m_thiefL hM1 r1.1]
theorem k_lostWatch (I : INV c w m) : CALL (X10_lostWatch 0) (X11_lostWatch 75) c j w m n := by
  obtain ⟨B, ⟨u1, u2, -⟩ | ⟨u1, u2, V, K, hC, hM, -, -⟩⟩ := id I
  · refine CALL.no I (x := 1) (r := -1) (by decide) ?_ ?_
    · unfold X10_lostWatch
      rw [cV0, c_undern u1, bd_eq, cV0, c_ref1 (by decide), bd_eq, if_neg (by decide)]
    · unfold X11_lostWatch
      rw [cVv75, m_good, ob_some, I75_14, ob_some, gd_14, u2, if_pos rfl, cV75, m_no, bd_eq]
  · have hC := hC.rf 0
    have hM := hM.gd
    obtain ⟨hv, hw, g, hV, gk, hK, h2⟩ := id hC
    obtain ⟨m1, e1, l1, r1⟩ := m_sailNow (c := rf c 0) (j := j) (w := w) (m := gd m) (n := n) hM
    have hM1 := hM.mf l1.mf
    refine CALL.yes I (c' := rf c 0) (m' := m1) (j' := j) (n' := n) (fr.rf _) (l1.mf) (r := iI (lwF (lNw V K) (V 20 2))) ?_ ?_
    · unfold X10_lostWatch
      rw [cV0, c_under1 u1, bd_eq, cV0, c_ref0, bd_eq, if_pos rfl, c_lostL hC rfl]
    · unfold X11_lostWatch
      rw [cVv75, m_good, ob_some, I75_14, ob_some, gd_14, u2, if_neg (by decide), cVv75, e1, ob_some, m_lostL hM1 r1.1]
theorem k_worst (I : INV c w m) : CALL (X10_worst 0) (X11_worst 75) c j w m n := by
  obtain ⟨B, ⟨u1, u2, -⟩ | ⟨u1, u2, V, K, hC, hM, -, -⟩⟩ := id I
  · refine CALL.no I (x := 1) (r := -1) (by decide) ?_ ?_
    · unfold X10_worst
      rw [cV0, c_undern u1, bd_eq, cV0, c_ref1 (by decide), bd_eq, if_neg (by decide)]
    · unfold X11_worst
      rw [cVv75, m_good, ob_some, I75_14, ob_some, gd_14, u2, if_pos rfl, cV75, m_no, bd_eq]
  · have hC := hC.rf 0
    have hM := hM.gd
    obtain ⟨hv, hw, g, hV, gk, hK, h2⟩ := id hC
    obtain ⟨c1, d1, f1, t1⟩ := c_reckon (c := rf c 0) (j := j) (w := w) (m := m) (n := n) hv hw now_K g gk (GE1 g) hV hK
    have q1 : fr (rf c 0) c1 := fun y hy => f1 y (by omega)
    obtain ⟨c2, d2, f2⟩ := c_worstL (c := c1) (j := j) (w := w) (m := m) (n := n) (hC.fr q1) rfl t1
    obtain ⟨m1, e1, l1, r1⟩ := m_sailNow (c := c2) (j := j) (w := w) (m := gd m) (n := n) hM
    have hM1 := hM.mf l1.mf
    refine CALL.yes I (c' := c2) (m' := m1) (j' := j) (n' := n) (q1.tr f2) (l1.mf) (r := nI (wst (aptS V K (lNw V K) allS) (V 20 2 + 1))) ?_ ?_
    · unfold X10_worst
      rw [cV0, c_under1 u1, bd_eq, cV0, c_ref0, bd_eq, if_pos rfl, F0_5, ob_some, F0_2, ob_some, cVv59, d1, ob_some, d2]
    · unfold X11_worst
      rw [cVv75, m_good, ob_some, I75_14, ob_some, gd_14, u2, if_neg (by decide), cVv75, e1, ob_some, m_worstL hM1 r1]
theorem k_strikes (I : INV c w m) : CALL (X10_strikes 0) (X11_strikes 75) c j w m n := by
  obtain ⟨B, ⟨u1, u2, -⟩ | ⟨u1, u2, V, K, hC, hM, -, -⟩⟩ := id I
  · refine CALL.no I (x := 1) (r := -1) (by decide) ?_ ?_
    · unfold X10_strikes
      rw [cV0, c_undern u1, bd_eq, cV0, c_ref1 (by decide), bd_eq, if_neg (by decide)]
    · unfold X11_strikes
      rw [cVv75, m_good, ob_some, I75_14, ob_some, gd_14, u2, if_pos rfl, cV75, m_no, bd_eq]
  · have hC := hC.rf 0
    have hM := hM.gd
    obtain ⟨hv, hw, g, hV, gk, hK, h2⟩ := id hC
    obtain ⟨c1, c2, d1, d2, f2, f1⟩ := c_recStrike (c := rf c 0) (j := j) (w := w) (m := m) (n := n) (S := allS) hv hw g gk (GE1 g) hV now_K hK (RS_all g h2) false
    obtain ⟨m1, e1, l1, r1⟩ := m_sailNow (c := c2) (j := j) (w := w) (m := gd m) (n := n) hM
    have hM1 := hM.mf l1.mf
    refine CALL.yes I (c' := c2) (m' := m1) (j' := j) (n' := n) (fun y hy => f2 y (by omega) (by omega)) (l1.mf) (r := iI (stk V K (lNw V K) allS false)) ?_ ?_
    · unfold X10_strikes
      rw [cV0, c_under1 u1, bd_eq, cV0, c_ref0, bd_eq, if_pos rfl, F0_5, ob_some, F0_2, ob_some, cVv59, d1, ob_some, F0_5, ob_some, F0_2, ob_some, cV59, show X6_firstStrike 59 35 0 (enc c1 j w m n) = _ from d2, bd_eq]
      rfl
    · unfold X11_strikes
      rw [cVv75, m_good, ob_some, I75_14, ob_some, gd_14, u2, if_neg (by decide), cVv75, e1, ob_some, cV75, m_struck g hM1.2.2.1 (lNw_le g gk) r1, bd_eq]
theorem k_feared (I : INV c w m) : CALL (X10_feared 0) (X11_feared 75) c j w m n := by
  obtain ⟨B, ⟨u1, u2, -⟩ | ⟨u1, u2, V, K, hC, hM, -, -⟩⟩ := id I
  · refine CALL.no I (x := 1) (r := -1) (by decide) ?_ ?_
    · unfold X10_feared
      rw [cV0, c_undern u1, bd_eq, cV0, c_ref1 (by decide), bd_eq, if_neg (by decide)]
    · unfold X11_feared
      rw [cVv75, m_good, ob_some, I75_14, ob_some, gd_14, u2, if_pos rfl, cV75, m_no, bd_eq]
  · have hC := hC.rf 0
    have hM := hM.gd
    obtain ⟨hv, hw, g, hV, gk, hK, h2⟩ := id hC
    obtain ⟨c1, c2, d1, d2, f2, f1⟩ := c_recStrike (c := rf c 0) (j := j) (w := w) (m := m) (n := n) (S := allS) hv hw g gk (GE1 g) hV now_K hK (RS_all g h2) true
    obtain ⟨m1, e1, l1, r1⟩ := m_sailNow (c := c2) (j := j) (w := w) (m := gd m) (n := n) hM
    have hM1 := hM.mf l1.mf
    refine CALL.yes I (c' := c2) (m' := m1) (j' := j) (n' := n) (fun y hy => f2 y (by omega) (by omega)) (l1.mf) (r := iI (stk V K (lNw V K) allS true)) ?_ ?_
    · unfold X10_feared
      rw [cV0, c_under1 u1, bd_eq, cV0, c_ref0, bd_eq, if_pos rfl, F0_5, ob_some, F0_2, ob_some, cVv59, d1, ob_some, F0_5, ob_some, F0_2, ob_some, cV59, show X6_firstStrike 59 35 1 (enc c1 j w m n) = _ from d2, bd_eq]
      rfl
    · unfold X11_feared
      rw [cVv75, m_good, ob_some, I75_14, ob_some, gd_14, u2, if_neg (by decide), cVv75, e1, ob_some, m_fearedL g hM1.2.2.1 (lNw_le g gk) r1]
theorem k_perils (I : INV c w m) : CALL (X10_perils 0) (X11_perils 75) c j w m n := by
  obtain ⟨B, ⟨u1, u2, -⟩ | ⟨u1, u2, V, K, hC, hM, -, -⟩⟩ := id I
  · refine CALL.no I (x := 1) (r := -1) (by decide) ?_ ?_
    · unfold X10_perils
      rw [cV0, c_undern u1, bd_eq, cV0, c_ref1 (by decide), bd_eq, if_neg (by decide)]
    · unfold X11_perils
      rw [cVv75, m_good, ob_some, I75_14, ob_some, gd_14, u2, if_pos rfl, cV75, m_no, bd_eq]
  · have hC := hC.rf 0
    have hM := hM.gd
    obtain ⟨hv, hw, g, hV, gk, hK, h2⟩ := id hC
    obtain ⟨c1, d1, f1⟩ := c_strikingSets (c := rf c 0) (j := j) (w := w) (m := m) (n := n) hC
    obtain ⟨m1, e1, l1⟩ := m_perils0 (c := c1) (j := j) (w := w) (m := gd m) (n := n) hM
    refine CALL.yes I (c' := c1) (m' := m1) (j' := j) (n' := n) (f1) (l1) (r := nI (perS V K (2 ^ V 20 5))) ?_ ?_
    · unfold X10_perils
      rw [cV0, c_under1 u1, bd_eq, cV0, c_ref0, bd_eq, if_pos rfl, F0_7, ob_some, F0_2, ob_some, cV_eq F71_is, d1, bd_eq]
    · unfold X11_perils
      rw [cVv75, m_good, ob_some, I75_14, ob_some, gd_14, u2, if_neg (by decide), cV75, e1, bd_eq]
theorem k_lookFirst (I : INV c w m) : CALL (X10_lookFirst 0) (X11_lookFirst 75) c j w m n := by
  obtain ⟨B, ⟨u1, u2, -⟩ | ⟨u1, u2, V, K, hC, hM, -, -⟩⟩ := id I
  · refine CALL.no I (x := 1) (r := -1) (by decide) ?_ ?_
    · unfold X10_lookFirst
      rw [cV0, c_undern u1, bd_eq, cV0, c_ref1 (by decide), bd_eq, if_neg (by decide)]
    · unfold X11_lookFirst
      rw [cVv75, m_good, ob_some, I75_14, ob_some, gd_14, u2, if_pos rfl, cV75, m_no, bd_eq]
  · have hC := hC.rf 0
    have hM := hM.gd
    obtain ⟨hv, hw, g, hV, gk, hK, h2⟩ := id hC
    obtain ⟨c1, d1, f1⟩ := c_bestOne (c := rf c 0) (j := j) (w := w) (m := m) (n := n) hC
    obtain ⟨m1, e1, l1⟩ := m_lookL (c := c1) (j := j) (w := w) (m := gd m) (n := n) hM (fun k hk => sw_one g hk)
    refine CALL.yes I (c' := c1) (m' := m1) (j' := j) (n' := n) (f1) (l1) (r := nI (b1 (sav V K) (V 20 2))) ?_ ?_
    · unfold X10_lookFirst
      rw [cV0, c_under1 u1, bd_eq, cV0, c_ref0, bd_eq, if_pos rfl, F0_6, ob_some, F0_2, ob_some, cV_eq F68_is, d1, bd_eq]
    · unfold X11_lookFirst
      rw [cVv75, m_good, ob_some, I75_14, ob_some, gd_14, u2, if_neg (by decide), e1]
theorem k_change (I : INV c w m) : CALL (X10_change 0) (X11_change 75) c j w m n := by
  obtain ⟨B, ⟨u1, u2, -⟩ | ⟨u1, u2, V, K, hC, hM, -, -⟩⟩ := id I
  · refine CALL.no I (x := 1) (r := -1) (by decide) ?_ ?_
    · unfold X10_change
      rw [cV0, c_undern u1, bd_eq, cV0, c_ref1 (by decide), bd_eq, if_neg (by decide)]
    · unfold X11_change
      rw [cVv75, m_good, ob_some, I75_14, ob_some, gd_14, u2, if_pos rfl, cV75, m_no, bd_eq]
  · have hC := hC.rf 0
    have hM := hM.gd
    obtain ⟨hv, hw, g, hV, gk, hK, h2⟩ := id hC
    obtain ⟨c1, d1, f1⟩ := c_changeL (c := rf c 0) (j := j) (w := w) (m := m) (n := n) hC rfl
    obtain ⟨m1, e1, l1⟩ := m_changeL (c := c1) (j := j) (w := w) (m := gd m) (n := n) hM
    refine CALL.yes I (c' := c1) (m' := m1) (j' := j) (n' := n) (f1) (l1) (r := iI (chO (chB V K) (V 20 2))) ?_ ?_
    · unfold X10_change
      rw [cV0, c_under1 u1, bd_eq, cV0, c_ref0, bd_eq, if_pos rfl, d1]
    · unfold X11_change
      rw [cVv75, m_good, ob_some, I75_14, ob_some, gd_14, u2, if_neg (by decide), e1]
theorem k_fits (I : INV c w m) : CALL (X10_fits 0) (X11_fits 75) c j w m n := by
  obtain ⟨B, ⟨u1, u2, -⟩ | ⟨u1, u2, V, K, hC, hM, -, -⟩⟩ := id I
  · refine CALL.no I (x := 1) (r := -1) (by decide) ?_ ?_
    · unfold X10_fits
      rw [cV0, c_undern u1, bd_eq, cV0, c_ref1 (by decide), bd_eq, if_neg (by decide)]
    · unfold X11_fits
      rw [cVv75, m_good, ob_some, I75_14, ob_some, gd_14, u2, if_pos rfl, cV75, m_no, bd_eq]
  · have hC := hC.rf 0
    have hM := hM.gd
    obtain ⟨hv, hw, g, hV, gk, hK, h2⟩ := id hC
    obtain ⟨c1, d1, f1⟩ := c_fitting (c := rf c 0) (j := j) (w := w) (m := m) (n := n) hv hw g hV
    have hC1 := hC.fr f1.fr
    have hV1 := hC1.2.2.2.1
    have hcnt : bcN (fitM V) = cnt (fitB V) (2 ^ V 20 5) := by rw [bc_cnt (fitM_lt g)]; exact cnt_fm (sets_lt g)
    obtain ⟨m1, e1, l1, s37, s38, s39⟩ := m_seek (c := c1) (j := j) (w := w) (m := gd m) (n := n) hM (-1)
    refine CALL.yes I (c' := c1) (m' := m1) (j' := j) (n' := n) (f1.fr) (l1) (r := nI (cnt (fitB V) (2 ^ V 20 5))) ?_ ?_
    · unfold X10_fits
      rw [cV0, c_under1 u1, bd_eq, cV0, c_ref0, bd_eq, if_pos rfl, F0_7, ob_some, cV_eq F71_is, d1, bd_eq, bit16 (fitM_lt g), bd_eq, hcnt]
    · unfold X11_fits
      rw [cVv75, m_good, ob_some, I75_14, ob_some, gd_14, u2, if_neg (by decide), cV75, e1, bd_eq, I75_37, ob_some, s37]
theorem k_could (I : INV c w m) : CALL (X10_could 0) (X11_could 75) c j w m n := by
  obtain ⟨B, ⟨u1, u2, -⟩ | ⟨u1, u2, V, K, hC, hM, -, -⟩⟩ := id I
  · refine CALL.no I (x := 1) (r := -1) (by decide) ?_ ?_
    · unfold X10_could
      rw [cV0, c_undern u1, bd_eq, cV0, c_ref1 (by decide), bd_eq, if_neg (by decide)]
    · unfold X11_could
      rw [cVv75, m_good, ob_some, I75_14, ob_some, gd_14, u2, if_pos rfl, cV75, m_no, bd_eq]
  · have hC := hC.rf 0
    have hM := hM.gd
    obtain ⟨hv, hw, g, hV, gk, hK, h2⟩ := id hC
    obtain ⟨c1, d1, f1⟩ := c_fitting (c := rf c 0) (j := j) (w := w) (m := m) (n := n) hv hw g hV
    have hC1 := hC.fr f1.fr
    have hV1 := hC1.2.2.2.1
    obtain ⟨m1, e1, l1, s37, s38, s39⟩ := m_seek (c := c1) (j := j) (w := w) (m := gd m) (n := n) hM (-1)
    refine CALL.yes I (c' := c1) (m' := m1) (j' := j) (n' := n) (f1.fr) (l1) (r := nI (orS (fitB V) (2 ^ V 20 5))) ?_ ?_
    · unfold X10_could
      rw [cV0, c_under1 u1, bd_eq, cV0, c_ref0, bd_eq, if_pos rfl, F0_7, ob_some, ob_some, cV_eq F71_is, d1, bd_eq, cV_eq F71_is, c_some hv hw g hV1, bd_eq]
    · unfold X11_could
      rw [cVv75, m_good, ob_some, I75_14, ob_some, gd_14, u2, if_neg (by decide), cV75, e1, bd_eq, I75_38, ob_some, s38]
theorem k_surely (I : INV c w m) : CALL (X10_surely 0) (X11_surely 75) c j w m n := by
  obtain ⟨B, ⟨u1, u2, -⟩ | ⟨u1, u2, V, K, hC, hM, -, -⟩⟩ := id I
  · refine CALL.no I (x := 1) (r := -1) (by decide) ?_ ?_
    · unfold X10_surely
      rw [cV0, c_undern u1, bd_eq, cV0, c_ref1 (by decide), bd_eq, if_neg (by decide)]
    · unfold X11_surely
      rw [cVv75, m_good, ob_some, I75_14, ob_some, gd_14, u2, if_pos rfl, cV75, m_no, bd_eq]
  · have hC := hC.rf 0
    have hM := hM.gd
    obtain ⟨hv, hw, g, hV, gk, hK, h2⟩ := id hC
    obtain ⟨c1, d1, f1⟩ := c_fitting (c := rf c 0) (j := j) (w := w) (m := m) (n := n) hv hw g hV
    have hC1 := hC.fr f1.fr
    have hV1 := hC1.2.2.2.1
    obtain ⟨m1, e1, l1, s37, s38, s39⟩ := m_seek (c := c1) (j := j) (w := w) (m := gd m) (n := n) hM (-1)
    have hz : (if cnt (fitB V) (2 ^ V 20 5) = 0 then 0 else anS (fitB V) (2 ^ V 20 5 - 1) (2 ^ V 20 5)) = anS (fitB V) (if fitM V = 0 then 0 else 2 ^ V 20 5 - 1) (2 ^ V 20 5) := by
      by_cases e : fitM V = 0
      · have hn := fm_zero.mp e
        rw [if_pos (cnt_zero.mpr hn), if_pos e, anS_none hn]
      · rw [if_neg (fun z => e (fm_zero.mpr (cnt_zero.mp z))), if_neg e]
    rw [hz] at s39
    refine CALL.yes I (c' := c1) (m' := m1) (j' := j) (n' := n) (f1.fr) (l1) (r := nI (anS (fitB V) (if fitM V = 0 then 0 else 2 ^ V 20 5 - 1) (2 ^ V 20 5))) ?_ ?_
    · unfold X10_surely
      rw [cV0, c_under1 u1, bd_eq, cV0, c_ref0, bd_eq, if_pos rfl, F0_7, ob_some, ob_some, cV_eq F71_is, d1, bd_eq, cV_eq F71_is, c_all hv hw g hV1, bd_eq]
    · unfold X11_surely
      rw [cVv75, m_good, ob_some, I75_14, ob_some, gd_14, u2, if_neg (by decide), cV75, e1, bd_eq, I75_39, ob_some, s39]
theorem k_fix (I : INV c w m) : CALL (X10_fix 0) (X11_fix 75) c j w m n := by
  obtain ⟨B, ⟨u1, u2, -⟩ | ⟨u1, u2, V, K, hC, hM, -, -⟩⟩ := id I
  · refine CALL.no I (x := 1) (r := -1) (by decide) ?_ ?_
    · unfold X10_fix
      rw [cV0, c_undern u1, bd_eq, cV0, c_ref1 (by decide), bd_eq, if_neg (by decide)]
    · unfold X11_fix
      rw [cVv75, m_good, ob_some, I75_14, ob_some, gd_14, u2, if_pos rfl, cV75, m_no, bd_eq]
  · have hC := hC.rf 0
    have hM := hM.gd
    obtain ⟨hv, hw, g, hV, gk, hK, h2⟩ := id hC
    obtain ⟨c1, d1, f1⟩ := c_fitting (c := rf c 0) (j := j) (w := w) (m := m) (n := n) hv hw g hV
    have hC1 := hC.fr f1.fr
    have hV1 := hC1.2.2.2.1
    obtain ⟨c2, d2, f2⟩ := c_bestFix (c := c1) (j := j) (w := w) (m := m) (n := n) hv hw g hV1
    obtain ⟨m1, e1, l1, s40⟩ := m_fixOf (c := c2) (j := j) (w := w) (m := gd m) (n := n) hM
    refine CALL.yes I (c' := c2) (m' := m1) (j' := j) (n' := n) (f1.fr.tr f2) (l1) (r := iI (if fitM V = 0 then -2 else (bfx (lefS V) (V 20 2 + 1)).1)) ?_ ?_
    · unfold X10_fix
      rw [cV0, c_under1 u1, bd_eq, cV0, c_ref0, bd_eq, if_pos rfl, F0_7, ob_some, ob_some, cV_eq F71_is, d1, bd_eq, cV_eq F71_is, d2, bd_eq]
    · unfold X11_fix
      rw [cVv75, m_good, ob_some, I75_14, ob_some, gd_14, u2, if_neg (by decide), cV75, e1, bd_eq]
theorem k_judge (I : INV c w m) : CALL (X10_judge 0) (X11_judge 75) c j w m n := by
  obtain ⟨B, ⟨u1, u2, -⟩ | ⟨u1, u2, V, K, hC, hM, -, -⟩⟩ := id I
  · refine CALL.no I (x := 1) (r := -1) (by decide) ?_ ?_
    · unfold X10_judge
      rw [cV0, c_undern u1, bd_eq, cV0, c_ref1 (by decide), bd_eq, if_neg (by decide)]
    · unfold X11_judge
      rw [cVv75, m_good, ob_some, I75_14, ob_some, gd_14, u2, if_pos rfl, cV75, m_no, bd_eq]
  · have hC := hC.rf 0
    have hM := hM.gd
    obtain ⟨hv, hw, g, hV, gk, hK, h2⟩ := id hC
    obtain ⟨c1, d1, f1⟩ := c_misfit (c := rf c 0) (j := j) (w := w) (m := m) (n := n) hv hw g hV (s := 0) (by omega)
    obtain ⟨m1, e1, l1, -⟩ := m_wrongBy (c := c1) (j := j) (w := w) (m := gd m) (n := n) hM (s := 0) (by omega)
    refine CALL.yes I (c' := c1) (m' := m1) (j' := j) (n' := n) (f1.fr) (l1.mf) (r := iI (misf V 0)) ?_ ?_
    · unfold X10_judge
      rw [cV0, c_under1 u1, bd_eq, cV0, c_ref0, bd_eq, if_pos rfl, F0_7, ob_some, cV_eq F71_is, show X3_firstMisfit 71 0 (enc (rf c 0) j w m n) = _ from d1, bd_eq]
    · unfold X11_judge
      rw [cVv75, m_good, ob_some, I75_14, ob_some, gd_14, u2, if_neg (by decide), cV75, show X11_wrongBy 75 0 (enc c1 j w (gd m) n) = _ from e1, bd_eq]
theorem k_dearest (I : INV c w m) : CALL (X10_dearest 0) (X11_dearest 75) c j w m n := by
  obtain ⟨B, ⟨u1, u2, -⟩ | ⟨u1, u2, V, K, hC, hM, -, -⟩⟩ := id I
  · refine CALL.no I (x := 1) (r := -1) (by decide) ?_ ?_
    · unfold X10_dearest
      rw [cV0, c_undern u1, bd_eq, cV0, c_ref1 (by decide), bd_eq, if_neg (by decide)]
    · unfold X11_dearest
      rw [cVv75, m_good, ob_some, I75_14, ob_some, gd_14, u2, if_pos rfl, cV75, m_no, bd_eq]
  · have hC := hC.rf 0
    have hM := hM.gd
    obtain ⟨hv, hw, g, hV, gk, hK, h2⟩ := id hC
    obtain ⟨c1, d1, f1⟩ := c_dearest (c := rf c 0) (j := j) (w := w) (m := m) (n := n) hC
    obtain ⟨m1, m2, e1, e2, l1⟩ := m_dearL (c := c1) (j := j) (w := w) (m := gd m) (n := n) hM
    refine CALL.yes I (c' := c1) (m' := m2) (j' := j) (n' := n) (f1) (l1) (r := iI (dearS V K)) ?_ ?_
    · unfold X10_dearest
      rw [cV0, c_under1 u1, bd_eq, cV0, c_ref0, bd_eq, if_pos rfl, F0_8, ob_some, F0_2, ob_some, cV_eq F74_is, d1, bd_eq]
    · unfold X11_dearest
      rw [cVv75, m_good, ob_some, I75_14, ob_some, gd_14, u2, if_neg (by decide), cV75, e1, bd_eq, e2]
theorem k_fixLeaves (I : INV c w m) : CALL (X10_fixLeaves 0) (X11_fixLeaves 75) c j w m n := by
  obtain ⟨B, ⟨u1, u2, -⟩ | ⟨u1, u2, V, K, hC, hM, -, -⟩⟩ := id I
  · refine CALL.no I (x := 1) (r := -1) (by decide) ?_ ?_
    · unfold X10_fixLeaves
      rw [cV0, c_undern u1, bd_eq, cV0, c_ref1 (by decide), bd_eq, if_neg (by decide)]
    · unfold X11_fixLeaves
      rw [cVv75, m_good, ob_some, I75_14, ob_some, gd_14, u2, if_pos rfl, cV75, m_no, bd_eq]
  · have hC := hC.rf 0
    have hM := hM.gd
    obtain ⟨hv, hw, g, hV, gk, hK, h2⟩ := id hC
    have g12 := g.1.2.2.1
    obtain ⟨c1, d1, f1⟩ := c_fitting (c := rf c 0) (j := j) (w := w) (m := m) (n := n) hv hw g hV
    have hC1 := hC.fr f1.fr
    have hV1 := hC1.2.2.2.1
    have hF := fitM_lt g
    have hz : nI (fitM V) = 0 ↔ fitM V = 0 := N_inj (b := 0) (by omega) (by omega)
    by_cases e0 : fitM V = 0
    · obtain ⟨m1, e1, l1, s40⟩ := m_fixOf (c := c1) (j := j) (w := w) (m := gd m) (n := n) hM
      rw [if_pos e0] at s40
      refine CALL.yes I (c' := c1) (m' := m1) (j' := j) (n' := n) f1.fr l1 (r := iI (-2)) ?_ ?_
      · unfold X10_fixLeaves
        rw [cV0, c_under1 u1, bd_eq, cV0, c_ref0, bd_eq, if_pos rfl, F0_7, ob_some, cV_eq F71_is, d1, bd_eq, if_pos (hz.mpr e0)]
        rfl
      · unfold X11_fixLeaves
        rw [cVv75, m_good, ob_some, I75_14, ob_some, gd_14, u2, if_neg (by decide), cV75, e1, bd_eq, I75_40, ob_some, s40]
    · obtain ⟨c2, d2, f2⟩ := c_bestFix (c := c1) (j := j) (w := w) (m := m) (n := n) hv hw g hV1
      have hr := bfx_range (lefS_le g) (V 20 2 + 1)
      have hn := bfx_neg (f := lefS V) (V 20 2 + 1) (by omega)
      have hb : (bfx (lefS V) (V 20 2 + 1)).1.toNat ≤ V 20 2 := by rcases hr.1 with q | q <;> omega
      rw [if_neg e0, show iI (bfx (lefS V) (V 20 2 + 1)).1 = nI (bfx (lefS V) (V 20 2 + 1)).1.toNat by rw [nI_iI]; exact congrArg iI (by rcases hr.1 with q | q <;> omega)] at d2
      obtain ⟨c3, d3, f3⟩ := c_mostLeft (c := c2) (j := j) (w := w) (m := m) (n := n) hv hw g (hC1.fr f2).2.2.2.1 hb
      obtain ⟨m1, e1, l1, s40⟩ := m_fixOf (c := c3) (j := j) (w := w) (m := gd m) (n := n) hM
      rw [if_neg e0] at s40
      refine CALL.yes I (c' := c3) (m' := m1) (j' := j) (n' := n) ((f1.fr.tr f2).tr f3) l1 (r := nI (lefS V (bfx (lefS V) (V 20 2 + 1)).1.toNat)) ?_ ?_
      · unfold X10_fixLeaves
        rw [cV0, c_under1 u1, bd_eq, cV0, c_ref0, bd_eq, if_pos rfl, F0_7, ob_some, cV_eq F71_is, d1, bd_eq, if_neg (fun z => e0 (hz.mp z)), F0_7, ob_some, ob_some, cV_eq F71_is, d2, bd_eq, cV_eq F71_is, d3, bd_eq]
      · unfold X11_fixLeaves
        rw [cVv75, m_good, ob_some, I75_14, ob_some, gd_14, u2, if_neg (by decide), cV75, e1, bd_eq, I75_40, ob_some, s40, ← nI_iI]
theorem k_stolenBy (I : INV c w m) (x : Int32) : CALL (X10_stolenBy 0 x) (X11_stolenBy 75 x) c j w m n := by
  obtain ⟨B, ⟨u1, u2, -⟩ | ⟨u1, u2, V, K, hC, hM, -, -⟩⟩ := id I
  · refine CALL.no I (x := 1) (r := -1) (by decide) ?_ ?_
    · unfold X10_stolenBy
      rw [cV0, c_aftern (BS_w B) u1, bd_eq, cV0, c_ref1 (by decide), bd_eq, if_neg (by decide)]
    · unfold X11_stolenBy
      rw [cVv75, m_good, ob_some, cV75, m_numn (by rw [gd_14]; exact u2), bd_eq, if_neg (by decide), cV75, m_numn (by rw [gd_14]; exact u2), bd_eq, cV75, m_no, bd_eq]
  · have g12 := hM.1.1.2.2.1
    rcases n_dec x (V 20 2 + 1) (by omega) with ⟨b, hb, rfl⟩ | hx
    · have hb : b ≤ V 20 2 := by omega
      have hC0 := hC
      have hC := hC.rf 0
      have hM := hM.gd
      obtain ⟨hv, hw, g, hV, gk, hK, h2⟩ := id hC
      obtain ⟨c1, d1, f1, t1⟩ := c_reckon (c := rf c 0) (j := j) (w := w) (m := m) (n := n) hv hw now_K g gk (GE1 g) hV hK
      obtain ⟨m1, e1, l1, r1⟩ := m_sailNow (c := c1) (j := j) (w := w) (m := gd m) (n := n) hM
      have hM1 := hM.mf l1.mf
      refine CALL.yes I (c' := c1) (m' := m1) (j' := j) (n' := n) (fun y hy => f1 y (by omega)) (l1.mf) (r := nI (sumN (lNw V K) b)) ?_ ?_
      · unfold X10_stolenBy
        rw [cV0, c_after1 hC0 rfl u1 hb, bd_eq, cV0, c_ref0, bd_eq, if_pos rfl, F0_5, ob_some, F0_2, ob_some, cVv59, d1, ob_some, F0_5, ob_some, cV59, c_lostBy (L := lNw V K) (by omega) (fun k hk => t1 k (by omega)), bd_eq]
      · unfold X11_stolenBy
        rw [cVv75, m_good, ob_some, cV75, m_num1 hM (by rw [gd_14]; exact u2) hb, bd_eq, if_pos rfl, cVv75, e1, ob_some, cV75, m_sumFirst (L := lNw V K) (by omega) (fun k hk => r1.1 k (by omega)), bd_eq]
    · have hM := hM.gd
      refine CALL.no I (x := 2) (r := -1) (by decide) ?_ ?_
      · unfold X10_stolenBy
        rw [cV0, c_after0 hC rfl u1 hx, bd_eq, cV0, c_ref1 (by decide), bd_eq, if_neg (by decide)]
      · unfold X11_stolenBy
        rw [cVv75, m_good, ob_some, cV75, m_num0 hM (by rw [gd_14]; exact u2) hx, bd_eq, if_neg (by decide), cV75, m_num0 hM (by rw [gd_14]; exact u2) hx, bd_eq, cV75, m_no, bd_eq]
theorem k_error (I : INV c w m) (x : Int32) : CALL (X10_error 0 x) (X11_error 75 x) c j w m n := by
  obtain ⟨B, ⟨u1, u2, -⟩ | ⟨u1, u2, V, K, hC, hM, -, -⟩⟩ := id I
  · refine CALL.no I (x := 1) (r := -1) (by decide) ?_ ?_
    · unfold X10_error
      rw [cV0, c_aftern (BS_w B) u1, bd_eq, cV0, c_ref1 (by decide), bd_eq, if_neg (by decide)]
    · unfold X11_error
      rw [cVv75, m_good, ob_some, cV75, m_numn (by rw [gd_14]; exact u2), bd_eq, if_neg (by decide), cV75, m_numn (by rw [gd_14]; exact u2), bd_eq, cV75, m_no, bd_eq]
  · have g12 := hM.1.1.2.2.1
    rcases n_dec x (V 20 2 + 1) (by omega) with ⟨b, hb, rfl⟩ | hx
    · have hb : b ≤ V 20 2 := by omega
      have hC0 := hC
      have hC := hC.rf 0
      have hM := hM.gd
      obtain ⟨hv, hw, g, hV, gk, hK, h2⟩ := id hC
      obtain ⟨c1, d1, f1, s1, -⟩ := c_sailFor (c := rf c 0) (j := j) (w := w) (m := m) (n := n) (S := allS) hv hw g gk (GE1 g) hV now_K hK (RS_all g h2) hb
      obtain ⟨b1, b2⟩ := sq_lt (K := K) g (lNw_le g gk) hb
      obtain ⟨b3, b4⟩ := th_lt (K := K) (S := allS) g (lNw_le g gk) hb
      obtain ⟨m1, e1, l1, r1⟩ := m_sailNow (c := c1) (j := j) (w := w) (m := gd m) (n := n) hM
      have hM1 := hM.mf l1.mf
      refine CALL.yes I (c' := c1) (m' := m1) (j' := j) (n' := n) (fun y hy => f1 y (by omega) (by omega)) (l1.mf) (r := iI (aptS V K (lNw V K) allS b)) ?_ ?_
      · unfold X10_error
        rw [cV0, c_after1 hC0 rfl u1 hb, bd_eq, cV0, c_ref0, bd_eq, if_pos rfl, F0_5, ob_some, F0_2, ob_some, cV59, d1, bd_eq, cV_eq F60_is, c_apart s1 b1 b2 b3 b4, bd_eq]
        rfl
      · unfold X11_error
        rw [cVv75, m_good, ob_some, cV75, m_num1 hM (by rw [gd_14]; exact u2) hb, bd_eq, if_pos rfl, cVv75, e1, ob_some, cV75, m_errorOf g (lNw_le g gk) r1 (Nat.le_refl _) hb, bd_eq]
    · have hM := hM.gd
      refine CALL.no I (x := 2) (r := -1) (by decide) ?_ ?_
      · unfold X10_error
        rw [cV0, c_after0 hC rfl u1 hx, bd_eq, cV0, c_ref1 (by decide), bd_eq, if_neg (by decide)]
      · unfold X11_error
        rw [cVv75, m_good, ob_some, cV75, m_num0 hM (by rw [gd_14]; exact u2) hx, bd_eq, if_neg (by decide), cV75, m_num0 hM (by rw [gd_14]; exact u2) hx, bd_eq, cV75, m_no, bd_eq]
theorem k_square (I : INV c w m) (x : Int32) : CALL (X10_square 0 x) (X11_square 75 x) c j w m n := by
  obtain ⟨B, ⟨u1, u2, -⟩ | ⟨u1, u2, V, K, hC, hM, -, -⟩⟩ := id I
  · refine CALL.no I (x := 1) (r := -1) (by decide) ?_ ?_
    · unfold X10_square
      rw [cV0, c_aftern (BS_w B) u1, bd_eq, cV0, c_ref1 (by decide), bd_eq, if_neg (by decide)]
    · unfold X11_square
      rw [cVv75, m_good, ob_some, cV75, m_numn (by rw [gd_14]; exact u2), bd_eq, if_neg (by decide), cV75, m_numn (by rw [gd_14]; exact u2), bd_eq, cV75, m_no, bd_eq]
  · have g12 := hM.1.1.2.2.1
    rcases n_dec x (V 20 2 + 1) (by omega) with ⟨b, hb, rfl⟩ | hx
    · have hb : b ≤ V 20 2 := by omega
      have hC0 := hC
      have hC := hC.rf 0
      have hM := hM.gd
      obtain ⟨hv, hw, g, hV, gk, hK, h2⟩ := id hC
      obtain ⟨c1, d1, f1, s1, -⟩ := c_sailFor (c := rf c 0) (j := j) (w := w) (m := m) (n := n) (S := allS) hv hw g gk (GE1 g) hV now_K hK (RS_all g h2) hb
      obtain ⟨b1, b2⟩ := sq_lt (K := K) g (lNw_le g gk) hb
      obtain ⟨b3, b4⟩ := th_lt (K := K) (S := allS) g (lNw_le g gk) hb
      obtain ⟨m1, e1, l1, r1⟩ := m_sailNow (c := c1) (j := j) (w := w) (m := gd m) (n := n) hM
      have hM1 := hM.mf l1.mf
      refine CALL.yes I (c' := c1) (m' := m1) (j' := j) (n' := n) (fun y hy => f1 y (by omega) (by omega)) (l1.mf) (r := iI (sqr (pE V K (lNw V K) b) (pN V K (lNw V K) b))) ?_ ?_
      · unfold X10_square
        rw [cV0, c_after1 hC0 rfl u1 hb, bd_eq, cV0, c_ref0, bd_eq, if_pos rfl, F0_5, ob_some, F0_2, ob_some, cV59, d1, bd_eq, cV_eq F60_is, c_inSquare s1 b1 b2, bd_eq]
        rfl
      · unfold X11_square
        rw [cVv75, m_good, ob_some, cV75, m_num1 hM (by rw [gd_14]; exact u2) hb, bd_eq, if_pos rfl, cVv75, e1, ob_some, cV75, m_squareOf g (lNw_le g gk) r1 (Nat.le_refl _) hb, bd_eq]
    · have hM := hM.gd
      refine CALL.no I (x := 2) (r := -1) (by decide) ?_ ?_
      · unfold X10_square
        rw [cV0, c_after0 hC rfl u1 hx, bd_eq, cV0, c_ref1 (by decide), bd_eq, if_neg (by decide)]
      · unfold X11_square
        rw [cVv75, m_good, ob_some, cV75, m_num0 hM (by rw [gd_14]; exact u2) hx, bd_eq, if_neg (by decide), cV75, m_num0 hM (by rw [gd_14]; exact u2) hx, bd_eq, cV75, m_no, bd_eq]
theorem k_squareThought (I : INV c w m) (x : Int32) : CALL (X10_squareThought 0 x) (X11_squareThought 75 x) c j w m n := by
  obtain ⟨B, ⟨u1, u2, -⟩ | ⟨u1, u2, V, K, hC, hM, -, -⟩⟩ := id I
  · refine CALL.no I (x := 1) (r := -1) (by decide) ?_ ?_
    · unfold X10_squareThought
      rw [cV0, c_aftern (BS_w B) u1, bd_eq, cV0, c_ref1 (by decide), bd_eq, if_neg (by decide)]
    · unfold X11_squareThought
      rw [cVv75, m_good, ob_some, cV75, m_numn (by rw [gd_14]; exact u2), bd_eq, if_neg (by decide), cV75, m_numn (by rw [gd_14]; exact u2), bd_eq, cV75, m_no, bd_eq]
  · have g12 := hM.1.1.2.2.1
    rcases n_dec x (V 20 2 + 1) (by omega) with ⟨b, hb, rfl⟩ | hx
    · have hb : b ≤ V 20 2 := by omega
      have hC0 := hC
      have hC := hC.rf 0
      have hM := hM.gd
      obtain ⟨hv, hw, g, hV, gk, hK, h2⟩ := id hC
      obtain ⟨c1, d1, f1, s1, -⟩ := c_sailFor (c := rf c 0) (j := j) (w := w) (m := m) (n := n) (S := allS) hv hw g gk (GE1 g) hV now_K hK (RS_all g h2) hb
      obtain ⟨b1, b2⟩ := sq_lt (K := K) g (lNw_le g gk) hb
      obtain ⟨b3, b4⟩ := th_lt (K := K) (S := allS) g (lNw_le g gk) hb
      obtain ⟨m1, e1, l1, r1⟩ := m_sailNow (c := c1) (j := j) (w := w) (m := gd m) (n := n) hM
      have hM1 := hM.mf l1.mf
      refine CALL.yes I (c' := c1) (m' := m1) (j' := j) (n' := n) (fun y hy => f1 y (by omega) (by omega)) (l1.mf) (r := iI (sqr (pTE V K b) (pTN V K (lNw V K) allS b))) ?_ ?_
      · unfold X10_squareThought
        rw [cV0, c_after1 hC0 rfl u1 hb, bd_eq, cV0, c_ref0, bd_eq, if_pos rfl, F0_5, ob_some, F0_2, ob_some, cV59, d1, bd_eq, cV_eq F60_is, c_thoughtSq s1 b3 b4, bd_eq]
        rfl
      · unfold X11_squareThought
        rw [cVv75, m_good, ob_some, cV75, m_num1 hM (by rw [gd_14]; exact u2) hb, bd_eq, if_pos rfl, cVv75, e1, ob_some, cV75, m_thoughtOf g (lNw_le g gk) r1 (Nat.le_refl _) hb, bd_eq]
    · have hM := hM.gd
      refine CALL.no I (x := 2) (r := -1) (by decide) ?_ ?_
      · unfold X10_squareThought
        rw [cV0, c_after0 hC rfl u1 hx, bd_eq, cV0, c_ref1 (by decide), bd_eq, if_neg (by decide)]
      · unfold X11_squareThought
        rw [cVv75, m_good, ob_some, cV75, m_num0 hM (by rw [gd_14]; exact u2) hx, bd_eq, if_neg (by decide), cV75, m_num0 hM (by rw [gd_14]; exact u2) hx, bd_eq, cV75, m_no, bd_eq]
theorem k_canBe (I : INV c w m) (x : Int32) : CALL (X10_canBe 0 x) (X11_canBe 75 x) c j w m n := by
  obtain ⟨B, ⟨u1, u2, -⟩ | ⟨u1, u2, V, K, hC, hM, -, -⟩⟩ := id I
  · refine CALL.no I (x := 1) (r := -1) (by decide) ?_ ?_
    · unfold X10_canBe
      rw [cV0, c_aftern (BS_w B) u1, bd_eq, cV0, c_ref1 (by decide), bd_eq, if_neg (by decide)]
    · unfold X11_canBe
      rw [cVv75, m_good, ob_some, cV75, m_numn (by rw [gd_14]; exact u2), bd_eq, if_neg (by decide), cV75, m_numn (by rw [gd_14]; exact u2), bd_eq, cV75, m_no, bd_eq]
  · have g12 := hM.1.1.2.2.1
    rcases n_dec x (V 20 2 + 1) (by omega) with ⟨b, hb, rfl⟩ | hx
    · have hb : b ≤ V 20 2 := by omega
      have hC0 := hC
      have hC := hC.rf 0
      have hM := hM.gd
      obtain ⟨hv, hw, g, hV, gk, hK, h2⟩ := id hC
      obtain ⟨c1, d1, f1⟩ := c_squaresAfter (c := rf c 0) (j := j) (w := w) (m := m) (n := n) hC hb
      obtain ⟨m1, e1, l1⟩ := m_canBeL (c := c1) (j := j) (w := w) (m := gd m) (n := n) hM hb
      refine CALL.yes I (c' := c1) (m' := m1) (j' := j) (n' := n) (f1) (l1) (r := nI (dl (sqS V K b) (2 ^ V 20 5)).length) ?_ ?_
      · unfold X10_canBe
        rw [cV0, c_after1 hC0 rfl u1 hb, bd_eq, cV0, c_ref0, bd_eq, if_pos rfl, F0_7, ob_some, F0_2, ob_some, cV_eq F71_is, d1, bd_eq]
      · unfold X11_canBe
        rw [cVv75, m_good, ob_some, cV75, m_num1 hM (by rw [gd_14]; exact u2) hb, bd_eq, if_pos rfl, e1]
    · have hM := hM.gd
      refine CALL.no I (x := 2) (r := -1) (by decide) ?_ ?_
      · unfold X10_canBe
        rw [cV0, c_after0 hC rfl u1 hx, bd_eq, cV0, c_ref1 (by decide), bd_eq, if_neg (by decide)]
      · unfold X11_canBe
        rw [cVv75, m_good, ob_some, cV75, m_num0 hM (by rw [gd_14]; exact u2) hx, bd_eq, if_neg (by decide), cV75, m_num0 hM (by rw [gd_14]; exact u2) hx, bd_eq, cV75, m_no, bd_eq]
end
