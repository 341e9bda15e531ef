/-! the reference reads the lines -/
section
variable {c : Nat → Nat → Int32} {j : Nat → Nat → Int64} {w : Nat → Nat} {m m' : Nat → Nat → Int32} {n : Nat → Nat → Int64} {T : Nat → Nat} {s p : Nat} {V : Nat → Nat → Nat} {F : Hp → Option Hp}
theorem ml_noo (J : JT m T s p) (D : MDt m T V) (g : GP T V) (hN : V 20 3 < 4) : MO T s (X11_noonLine 75) c j w m n (lnNoo T s V p) := by
  have nb : ∀ i, i < V 20 3 → V 5 i < 1000 := fun i hi => by have := g.2.2.2.2.2.2.2.2.1 i hi; omega
  unfold lnNoo
  by_cases z0 : fWd T s 21 p = 0
  · rw [nd_0 z0]
    obtain ⟨m1, e1, q1, J1⟩ := m_must1 (c := c) (j := j) (w := w) (n := n) J (k := 43) (by decide) z0
    have D1 := q1.d D
    by_cases z1 : fNm T s 1 12 (nxq T s p) = 0
    · rw [nd_0 z1]
      have e2 := m_nh1 (c := c) (j := j) (w := w) (n := n) J1 (lo := 1) (hi := 12) (by decide) (by decide) z1
      have B := (whn_ok (by decide) (by decide) z1).2.2
      have S : X11_noonLine 75 (enc c j w m n) = X11_noonLine_L25 5000 75 (nI (whn T s (nxq T s p))) 0 (enc c j w m1 n) := by
        unfold X11_noonLine
        rw [I75_13, ob_some, J.2.2.2, if_pos rfl, cVv75, e1, ob_some, cV75, show X11_numberHere 75 1 12 _ = _ from e2, bd_eq]
      by_cases z2 : fDu V 5 (V 20 3) (whn T s (nxq T s p)) = 0
      · rw [nd_0 z2]
        obtain ⟨m2, e3, q2, J2⟩ := m_pass (c := c) (j := j) (w := w) (n := n) J1
        have D2 := q2.d D1
        have c5 : m2 79 5 = nI (V 20 3) := k_n D2 (t := 3) (by decide)
        refine mo_ok ⟨va_up m2 79 (upd (upd (m2 79) (50 + V 20 3) (nI (whn T s (nxq T s p)))) 5 (nI (V 20 3 + 1))), ?_, (q1.tr q2).x.tr (FMx.wr fun y h _ => vup_ne _ _ h), J2.wr fun y h _ => vup_ne _ _ h, ?_⟩
        · rw [S]
          refine lpO_noo J1 D1 (by omega) (by omega) (by omega) nb z2 fun f => ?_
          unfold X11_noonLine_L25_s
          rw [R75_16, ob_some, show aI _ 79 5 = _ from M79 (i := 5) (by decide), ob_some, show m1 79 5 = _ from k_n D1 (t := 3) (by decide), if_pos (by rw [N_le (by omega) (by omega)]; omega), cVv75, e3, ob_some, I75_13, ob_some, J2.2.2.2, if_pos rfl, R75_16, ob_some, ob_some, show aI _ 79 5 = _ from M79 (i := 5) (by decide), ob_some, c5, show (50 : Int32) + nI (V 20 3) = nI (50 + V 20 3) from N_add 50 _, S79 (by omega), ob_some, R75_16, ob_some, show aI _ 79 5 = _ from M79 (i := 5) (by decide), ob_some, vup_at, upd_ne (by omega), c5, show nI (V 20 3) + 1 = nI (V 20 3 + 1) from N_add _ 1, show sI _ 79 5 _ = _ from S79 (i := 5) (by decide), ob_some, vup_at, vup_up]
        · refine md_add D2 g (t := 3) (by decide) hN (gg_Noo _) (fun x h1 h2 _ => ?_) ?_ (fun q hq => ?_) (fun _ => vup_ne _ _ (by decide)) (fun z => absurd z (by decide)) (fun z => absurd z (by decide))
          · have b1 : mb 3 = 50 := rfl
            have b2 : mw 3 = 1 := rfl
            rw [b1, b2] at h2
            rw [vup_at, upd_ne (by omega), upd_ne (by omega)]
          · rw [vup_at]; exact upd_at
          · have b2 : mw 3 = 1 := rfl
            have q0 : q = 0 := by omega
            subst q0
            rw [vup_at]
            show upd _ _ _ (50 + 1 * V 20 3 + 0) = _
            rw [show 50 + 1 * V 20 3 + 0 = 50 + V 20 3 by omega, upd_ne (by omega), upd_at]
            exact congrArg nI (ad_at (V := V) (t := 3) (g := gNoo (whn T s (nxq T s p))) (a := 5) (by decide) rfl).symm
      · rw [nd_1 z2]
        obtain ⟨y2, t2⟩ := du1 z2
        obtain ⟨m2, e3, q2, b2⟩ := lpB_noo (c := c) (j := j) (w := w) (n := n) J1 D1 (by omega) (by omega) (by omega) nb z2
        exact mo_qb ⟨m2, by rw [S, e3], q1.b.tr q2, by rw [t2]; exact b2⟩
    · rw [nd_1 z1]
      obtain ⟨m2, e2, q2, b2⟩ := m_nh0 (c := c) (j := j) (w := w) (n := n) J1 (lo := 1) (hi := 12) z1
      refine mo_qb ⟨m2, ?_, q1.b.tr q2, b2⟩
      unfold X11_noonLine
      rw [I75_13, ob_some, J.2.2.2, if_pos rfl, cVv75, e1, ob_some, cV75, show X11_numberHere 75 1 12 _ = _ from e2, bd_eq, lpG_noo (N := V 20 3) (by omega) b2.1 (by rw [(q1.b.tr q2).1 79 (by decide) (by decide)]; exact k_n D (t := 3) (by decide))]
  · rw [nd_1 z0]
    obtain ⟨m1, e1, q1, b1⟩ := m_must0 (c := c) (j := j) (w := w) (n := n) J (k := 43) (by decide) z0
    refine mo_qb ⟨m1, ?_, q1, b1⟩
    unfold X11_noonLine
    rw [I75_13, ob_some, J.2.2.2, if_pos rfl, cVv75, e1, ob_some, cV75, mF_nh b1.1, bd_eq, lpG_noo (N := V 20 3) (by omega) b1.1 (by rw [q1.1 79 (by decide) (by decide)]; exact k_n D (t := 3) (by decide))]
theorem ml_sho (J : JT m T s p) (D : MDt m T V) (g : GP T V) (hN : V 20 4 < 6) : MO T s (X11_shoalLine 75) c j w m n (lnSho T s V p) := by
  unfold lnSho
  have c6 : m 79 6 = nI (V 20 4) := k_n D (t := 4) (by decide)
  by_cases z0 : fNm T s 0 199 p = 0
  · rw [nd_0 z0]
    obtain ⟨m1, e1, q1, J1⟩ := m_nm1 (c := c) (j := j) (w := w) (n := n) J (lo := 0) (hi := 199) (by decide) (by decide) z0
    have B0 := (whn_ok (by decide) (by decide) z0).2.2
    have D1 := q1.d D
    by_cases z1 : fNm T s 0 199 (nxq T s p) = 0
    · rw [nd_0 z1]
      have e2 := m_nh1 (c := c) (j := j) (w := w) (n := n) J1 (lo := 0) (hi := 199) (by decide) (by decide) z1
      have B1 := (whn_ok (by decide) (by decide) z1).2.2
      have S : X11_shoalLine 75 (enc c j w m n) = X11_shoalLine_L42 5000 75 (nI (54 + 2 * V 20 4)) (nI (whn T s p)) (nI (whn T s (nxq T s p))) 0 (enc c j w m1 n) := by
        unfold X11_shoalLine
        rw [I75_13, ob_some, J.2.2.2, if_pos rfl, R75_16, ob_some, show aI _ 79 6 = _ from M79 (i := 6) (by decide), ob_some, c6, pin_eq, show (54 : Int32) + 2 * nI (V 20 4) = nI (54 + 2 * V 20 4) from IX 54 _, cV75, show X11_number 75 0 199 _ = _ from e1, bd_eq, cV75, show X11_numberHere 75 0 199 _ = _ from e2, bd_eq]
      by_cases z2 : fDu V 6 (V 20 4) (sqx (whn T s p) (whn T s (nxq T s p))) = 0
      · rw [nd_0 z2]
        obtain ⟨m2, e3, q2, J2⟩ := m_pass (c := c) (j := j) (w := w) (n := n) J1
        have D2 := q2.d D1
        have c5 : m2 79 6 = nI (V 20 4) := k_n D2 (t := 4) (by decide)
        refine mo_ok ⟨va_up m2 79 (upd (upd (upd (m2 79) (54 + 2 * V 20 4) (nI (whn T s p))) (54 + 2 * V 20 4 + 1) (nI (whn T s (nxq T s p)))) 6 (nI (V 20 4 + 1))), ?_, (q1.tr q2).x.tr (FMx.wr fun y h _ => vup_ne _ _ h), J2.wr fun y h _ => vup_ne _ _ h, ?_⟩
        · rw [S]
          refine lpO_sho J1 D1 (by omega) (by omega) (by omega) (by omega) g z2 fun f => ?_
          unfold X11_shoalLine_L42_s
          rw [R75_16, ob_some, show aI _ 79 6 = _ from M79 (i := 6) (by decide), ob_some, show m1 79 6 = _ from k_n D1 (t := 4) (by decide), if_pos (by rw [N_le (by omega) (by omega)]; omega), cVv75, e3, ob_some, I75_13, ob_some, J2.2.2.2, if_pos rfl, R75_16, ob_some, S79 (by omega), ob_some, R75_16, ob_some, show nI (54 + 2 * V 20 4) + 1 = nI (54 + 2 * V 20 4 + 1) from N_add _ 1, S79 (by omega), ob_some, R75_16, ob_some, vup_at, vup_up, show aI _ 79 6 = _ from M79 (i := 6) (by decide), ob_some, vup_at, upd_ne (by omega), upd_ne (by omega), c5, show nI (V 20 4) + 1 = nI (V 20 4 + 1) from N_add _ 1, show sI _ 79 6 _ = _ from S79 (i := 6) (by decide), ob_some, vup_at, vup_up]
        · refine md_add D2 g (t := 4) (by decide) hN (gg_Sho _ _) (fun x h1 h2 _ => ?_) ?_ (fun q hq => ?_) (fun _ => vup_ne _ _ (by decide)) (fun z => absurd z (by decide)) (fun z => absurd z (by decide))
          · have b1 : mb 4 = 54 := rfl
            have b2 : mw 4 = 2 := rfl
            rw [b1, b2] at h2
            rw [vup_at, upd_ne (by omega), upd_ne (by omega), upd_ne (by omega)]
          · rw [vup_at]; exact upd_at
          · have b2 : mw 4 = 2 := rfl
            by_cases q0 : q = 0
            · subst q0
              rw [vup_at]
              show upd _ _ _ (54 + 2 * V 20 4 + 0) = _
              rw [show 54 + 2 * V 20 4 + 0 = 54 + 2 * V 20 4 by omega, upd_ne (by omega), upd_ne (by omega), upd_at]
              exact congrArg nI (ad_at (V := V) (t := 4) (g := gSho (whn T s p) (whn T s (nxq T s p))) (a := 17) (by decide) rfl).symm
            have q1 : q = 1 := by omega
            subst q1
            rw [vup_at]
            show upd _ _ _ (54 + 2 * V 20 4 + 1) = _
            rw [show 54 + 2 * V 20 4 + 1 = 54 + 2 * V 20 4 + 1 by omega, upd_ne (by omega), upd_at]
            exact congrArg nI (ad_at (V := V) (t := 4) (g := gSho (whn T s p) (whn T s (nxq T s p))) (a := 18) (by decide) rfl).symm
      · rw [nd_1 z2]
        obtain ⟨y2, t2⟩ := du1 z2
        obtain ⟨m2, e3, q2, b2⟩ := lpB_sho (c := c) (j := j) (w := w) (n := n) (y0 := nI (54 + 2 * V 20 4)) J1 D1 (by omega) (by omega) (by omega) (by omega) g z2
        exact mo_qb ⟨m2, by rw [S, e3], q1.b.tr q2, by rw [t2]; exact b2⟩
    · rw [nd_1 z1]
      obtain ⟨m2, e2, q2, b2⟩ := m_nh0 (c := c) (j := j) (w := w) (n := n) J1 (lo := 0) (hi := 199) z1
      refine mo_qb ⟨m2, ?_, q1.b.tr q2, b2⟩
      unfold X11_shoalLine
      rw [I75_13, ob_some, J.2.2.2, if_pos rfl, R75_16, ob_some, show aI _ 79 6 = _ from M79 (i := 6) (by decide), ob_some, c6, pin_eq, show (54 : Int32) + 2 * nI (V 20 4) = nI (54 + 2 * V 20 4) from IX 54 _, cV75, show X11_number 75 0 199 _ = _ from e1, bd_eq, cV75, show X11_numberHere 75 0 199 _ = _ from e2, bd_eq, lpG_sho (N := V 20 4) (by omega) b2.1 (by rw [(q1.b.tr q2).1 79 (by decide) (by decide)]; exact k_n D (t := 4) (by decide))]
  · rw [nd_1 z0]
    obtain ⟨m1, e1, q1, b1⟩ := m_nm0 (c := c) (j := j) (w := w) (n := n) J (lo := 0) (hi := 199) z0
    refine mo_qb ⟨m1, ?_, q1, b1⟩
    unfold X11_shoalLine
    rw [I75_13, ob_some, J.2.2.2, if_pos rfl, R75_16, ob_some, show aI _ 79 6 = _ from M79 (i := 6) (by decide), ob_some, c6, pin_eq, show (54 : Int32) + 2 * nI (V 20 4) = nI (54 + 2 * V 20 4) from IX 54 _, cV75, show X11_number 75 0 199 _ = _ from e1, bd_eq, cV75, mF_nh b1.1, bd_eq, lpG_sho (N := V 20 4) (by omega) b1.1 (by rw [q1.1 79 (by decide) (by decide)]; exact k_n D (t := 4) (by decide))]
theorem ml_uns (J : JT m T s p) (D : MDt m T V) (g : GP T V) (hN : V 20 5 < 4) : MO T s (X11_unsureLine 75) c j w m n (lnUns T s V p) := by
  have cc := g.cc
  have nb : ∀ i, i < V 20 5 → V 7 i < 1000 := fun i hi => by have := g.2.2.2.2.2.2.2.2.2.2.2.1 i hi; omega
  have c7 : m 79 7 = nI (V 20 5) := k_n D (t := 5) (by decide)
  have nm := D.2.2.2.2.2.2
  unfold lnUns
  by_cases z0 : fOld T s V 0 p = 0
  · rw [nd_0 z0]
    have e1 := m_old1 (c := c) (j := j) (w := w) (n := n) J g nm (r := 0) (by decide) z0
    have B0 := (fOld_0 z0).2.2
    have S : X11_unsureLine 75 (enc c j w m n) = X11_unsureLine_L30 5000 75 (nI (66 + 2 * V 20 5)) (nI (fix T s V 0 p)) 0 (enc c j w m n) := by
      unfold X11_unsureLine
      rw [I75_13, ob_some, J.2.2.2, if_pos rfl, R75_16, ob_some, show aI _ 79 7 = _ from M79 (i := 7) (by decide), ob_some, c7, pin_eq, show (66 : Int32) + 2 * nI (V 20 5) = nI (66 + 2 * V 20 5) from IX 66 _, cV75, show X11_named 75 0 4 _ = _ from e1, bd_eq]
    by_cases z1 : fDu V 7 (V 20 5) (fix T s V 0 p) = 0
    · rw [nd_0 z1]
      obtain ⟨m2, e2, q2, J2⟩ := m_pass (c := c) (j := j) (w := w) (n := n) J
      have D2 := q2.d D
      by_cases z2 : fNm T s 0 20 (nxq T s p) = 0
      · rw [nd_0 z2]
        obtain ⟨m3, e3, q3, J3⟩ := m_nm1 (c := c) (j := j) (w := w) (n := n) J2 (lo := 0) (hi := 20) (by decide) (by decide) z2
        have D3 := q3.d D2
        have c5 : m3 79 7 = nI (V 20 5) := k_n D3 (t := 5) (by decide)
        refine mo_ok ⟨va_up m3 79 (upd (upd (upd (m3 79) (66 + 2 * V 20 5) (nI (fix T s V 0 p))) (66 + 2 * V 20 5 + 1) (nI (whn T s (nxq T s p)))) 7 (nI (V 20 5 + 1))), ?_, (q2.tr q3).x.tr (FMx.wr fun y h _ => vup_ne _ _ h), J3.wr fun y h _ => vup_ne _ _ h, ?_⟩
        · rw [S]
          refine lpO_uns J D (by omega) (by omega) (by omega) nb z1 fun f => ?_
          unfold X11_unsureLine_L30_s
          rw [R75_16, ob_some, show aI _ 79 7 = _ from M79 (i := 7) (by decide), ob_some, c7, if_pos (by rw [N_le (by omega) (by omega)]; omega), cVv75, e2, ob_some, cV75, show X11_number 75 0 20 _ = _ from e3, bd_eq, I75_13, ob_some, J3.2.2.2, if_pos rfl, R75_16, ob_some, S79 (by omega), ob_some, R75_16, ob_some, show nI (66 + 2 * V 20 5) + 1 = nI (66 + 2 * V 20 5 + 1) from N_add _ 1, S79 (by omega), ob_some, R75_16, ob_some, vup_at, vup_up, show aI _ 79 7 = _ from M79 (i := 7) (by decide), ob_some, vup_at, upd_ne (by omega), upd_ne (by omega), c5, show nI (V 20 5) + 1 = nI (V 20 5 + 1) from N_add _ 1, show sI _ 79 7 _ = _ from S79 (i := 7) (by decide), ob_some, vup_at, vup_up]
        · refine md_add D3 g (t := 5) (by decide) hN (gg_Uns _ _) (fun x h1 h2 _ => ?_) ?_ (fun q hq => ?_) (fun _ => vup_ne _ _ (by decide)) (fun z => absurd z (by decide)) (fun z => absurd z (by decide))
          · have b1 : mb 5 = 66 := rfl
            have b2 : mw 5 = 2 := rfl
            rw [b1, b2] at h2
            rw [vup_at, upd_ne (by omega), upd_ne (by omega), upd_ne (by omega)]
          · rw [vup_at]; exact upd_at
          · have b2 : mw 5 = 2 := rfl
            by_cases q0 : q = 0
            · subst q0
              rw [vup_at]
              show upd _ _ _ (66 + 2 * V 20 5 + 0) = _
              rw [show 66 + 2 * V 20 5 + 0 = 66 + 2 * V 20 5 by omega, upd_ne (by omega), upd_ne (by omega), upd_at]
              exact congrArg nI (ad_at (V := V) (t := 5) (g := gUns (fix T s V 0 p) (whn T s (nxq T s p))) (a := 7) (by decide) rfl).symm
            have q1 : q = 1 := by omega
            subst q1
            rw [vup_at]
            show upd _ _ _ (66 + 2 * V 20 5 + 1) = _
            rw [show 66 + 2 * V 20 5 + 1 = 66 + 2 * V 20 5 + 1 by omega, upd_ne (by omega), upd_at]
            exact congrArg nI (ad_at (V := V) (t := 5) (g := gUns (fix T s V 0 p) (whn T s (nxq T s p))) (a := 8) (by decide) rfl).symm
      · rw [nd_1 z2]
        obtain ⟨m3, e3, q3, b3⟩ := m_nm0 (c := c) (j := j) (w := w) (n := n) J2 (lo := 0) (hi := 20) z2
        refine mo_qb ⟨m3, ?_, q2.b.tr q3, b3⟩
        rw [S]
        refine lpO_uns J D (by omega) (by omega) (by omega) nb z1 fun f => ?_
        unfold X11_unsureLine_L30_s
        rw [R75_16, ob_some, show aI _ 79 7 = _ from M79 (i := 7) (by decide), ob_some, c7, if_pos (by rw [N_le (by omega) (by omega)]; omega), cVv75, e2, ob_some, cV75, show X11_number 75 0 20 _ = _ from e3, bd_eq, I75_13, ob_some, b3.1, if_neg (by decide)]
    · rw [nd_1 z1]
      obtain ⟨y2, t2⟩ := du1 z1
      obtain ⟨m2, e3, q2, b2⟩ := lpB_uns (c := c) (j := j) (w := w) (n := n) (y0 := nI (66 + 2 * V 20 5)) J D (by omega) (by omega) (by omega) nb z1
      exact mo_qb ⟨m2, by rw [S, e3], q2, by rw [t2]; exact b2⟩
  · rw [nd_1 z0]
    obtain ⟨m1, e1, q1, b1⟩ := m_old0 (c := c) (j := j) (w := w) (n := n) J g nm (r := 0) (by decide) z0
    refine mo_qb ⟨m1, ?_, q1, b1⟩
    unfold X11_unsureLine
    rw [I75_13, ob_some, J.2.2.2, if_pos rfl, R75_16, ob_some, show aI _ 79 7 = _ from M79 (i := 7) (by decide), ob_some, c7, pin_eq, show (66 : Int32) + 2 * nI (V 20 5) = nI (66 + 2 * V 20 5) from IX 66 _, cV75, show X11_named 75 0 4 _ = _ from e1, bd_eq, lpG_uns (N := V 20 5) (by omega) b1.1 (by rw [q1.1 79 (by decide) (by decide)]; exact k_n D (t := 5) (by decide))]
theorem ml_fou (J : JT m T s p) (D : MDt m T V) (g : GP T V) (hN : V 20 6 < 3) : MO T s (X11_foundLine 75) c j w m n (lnFou T s V p) := by
  have nb : ∀ i, i < V 20 6 → V 9 i < 1000 := fun i hi => by have := g.2.2.2.2.2.2.2.2.2.2.2.2.1 i hi; omega
  have c8 : m 79 8 = nI (V 20 6) := k_n D (t := 6) (by decide)
  unfold lnFou
  by_cases z0 : fNm T s 0 12 p = 0
  · rw [nd_0 z0]
    have e1 := m_nh1 (c := c) (j := j) (w := w) (n := n) J (lo := 0) (hi := 12) (by decide) (by decide) z0
    have B0 := (whn_ok (by decide) (by decide) z0).2.2
    have S : X11_foundLine 75 (enc c j w m n) = X11_foundLine_L31 5000 75 (nI (74 + 3 * V 20 6)) (nI (whn T s p)) 0 (enc c j w m n) := by
      unfold X11_foundLine
      rw [I75_13, ob_some, J.2.2.2, if_pos rfl, R75_16, ob_some, show aI _ 79 8 = _ from M79 (i := 8) (by decide), ob_some, c8, pin_eq, show (74 : Int32) + 3 * nI (V 20 6) = nI (74 + 3 * V 20 6) from IX3 74 _, cV75, show X11_numberHere 75 0 12 _ = _ from e1, bd_eq]
    by_cases z1 : fDu V 9 (V 20 6) (whn T s p) = 0
    · rw [nd_0 z1]
      obtain ⟨m2, e2, q2, J2⟩ := m_pass (c := c) (j := j) (w := w) (n := n) J
      have D2 := q2.d D
      obtain ⟨a1, a2, a3⟩ := m_aft (c := c) (j := j) (w := w) (n := n) J2 (k := 43) (lo := 0) (hi := 199) (by decide) (by decide) (by decide)
      by_cases z2 : fWd T s 21 (nxq T s p) = 0
      · rw [nd_0 z2]
        by_cases z3 : fNm T s 0 199 (nxq T s (nxq T s p)) = 0
        · rw [nd_0 z3]
          obtain ⟨m3, e3, q3, J3⟩ := a1 z2 z3
          have D3 := q3.d D2
          by_cases z4 : fNm T s 0 199 (nxq T s (nxq T s (nxq T s p))) = 0
          · rw [nd_0 z4]
            obtain ⟨m4, e4, q4, J4⟩ := m_nm1 (c := c) (j := j) (w := w) (n := n) J3 (lo := 0) (hi := 199) (by decide) (by decide) z4
            have D4 := q4.d D3
            have c5 : m4 79 8 = nI (V 20 6) := k_n D4 (t := 6) (by decide)
            refine mo_ok ⟨va_up m4 79 (upd (upd (upd (upd (m4 79) (74 + 3 * V 20 6) (nI (whn T s p))) (74 + 3 * V 20 6 + 1) (nI (whn T s (nxq T s (nxq T s p))))) (74 + 3 * V 20 6 + 2) (nI (whn T s (nxq T s (nxq T s (nxq T s p)))))) 8 (nI (V 20 6 + 1))), ?_, ((q2.tr q3).tr q4).x.tr (FMx.wr fun y h _ => vup_ne _ _ h), J4.wr fun y h _ => vup_ne _ _ h, ?_⟩
            · rw [S]
              refine lpO_fou J D (by omega) (by omega) (by omega) nb z1 fun f => ?_
              unfold X11_foundLine_L31_s
              rw [R75_16, ob_some, show aI _ 79 8 = _ from M79 (i := 8) (by decide), ob_some, c8, if_pos (by rw [N_le (by omega) (by omega)]; omega), cVv75, e2, ob_some, cV75, show X11_after 75 43 0 199 _ = _ from e3, bd_eq, cV75, show X11_number 75 0 199 _ = _ from e4, bd_eq, I75_13, ob_some, J4.2.2.2, if_pos rfl, R75_16, ob_some, S79 (by omega), ob_some, R75_16, ob_some, show nI (74 + 3 * V 20 6) + 1 = nI (74 + 3 * V 20 6 + 1) from N_add _ 1, S79 (by omega), ob_some, R75_16, ob_some, vup_at, vup_up, show nI (74 + 3 * V 20 6) + 2 = nI (74 + 3 * V 20 6 + 2) from N_add _ 2, S79 (by omega), ob_some, R75_16, ob_some, vup_at, vup_up, show aI _ 79 8 = _ from M79 (i := 8) (by decide), ob_some, vup_at, upd_ne (by omega), upd_ne (by omega), upd_ne (by omega), c5, show nI (V 20 6) + 1 = nI (V 20 6 + 1) from N_add _ 1, show sI _ 79 8 _ = _ from S79 (i := 8) (by decide), ob_some, vup_at, vup_up]
            · refine md_add D4 g (t := 6) (by decide) hN (gg_Fou _ _ _) (fun x h1 h2 _ => ?_) ?_ (fun q hq => ?_) (fun _ => vup_ne _ _ (by decide)) (fun z => absurd z (by decide)) (fun z => absurd z (by decide))
              · have b1 : mb 6 = 74 := rfl
                have b2 : mw 6 = 3 := rfl
                rw [b1, b2] at h2
                rw [vup_at, upd_ne (by omega), upd_ne (by omega), upd_ne (by omega), upd_ne (by omega)]
              · rw [vup_at]; exact upd_at
              · have b2 : mw 6 = 3 := rfl
                by_cases q0 : q = 0
                · subst q0
                  rw [vup_at]
                  show upd _ _ _ (74 + 3 * V 20 6 + 0) = _
                  rw [show 74 + 3 * V 20 6 + 0 = 74 + 3 * V 20 6 by omega, upd_ne (by omega), upd_ne (by omega), upd_ne (by omega), upd_at]
                  exact congrArg nI (ad_at (V := V) (t := 6) (g := gFou (whn T s p) (whn T s (nxq T s (nxq T s p))) (whn T s (nxq T s (nxq T s (nxq T s p))))) (a := 9) (by decide) rfl).symm
                by_cases q1 : q = 1
                · subst q1
                  rw [vup_at]
                  show upd _ _ _ (74 + 3 * V 20 6 + 1) = _
                  rw [show 74 + 3 * V 20 6 + 1 = 74 + 3 * V 20 6 + 1 by omega, upd_ne (by omega), upd_ne (by omega), upd_at]
                  exact congrArg nI (ad_at (V := V) (t := 6) (g := gFou (whn T s p) (whn T s (nxq T s (nxq T s p))) (whn T s (nxq T s (nxq T s (nxq T s p))))) (a := 21) (by decide) rfl).symm
                have q2 : q = 2 := by omega
                subst q2
                rw [vup_at]
                show upd _ _ _ (74 + 3 * V 20 6 + 2) = _
                rw [show 74 + 3 * V 20 6 + 2 = 74 + 3 * V 20 6 + 2 by omega, upd_ne (by omega), upd_at]
                exact congrArg nI (ad_at (V := V) (t := 6) (g := gFou (whn T s p) (whn T s (nxq T s (nxq T s p))) (whn T s (nxq T s (nxq T s (nxq T s p))))) (a := 22) (by decide) rfl).symm
          · rw [nd_1 z4]
            obtain ⟨m4, e4, q4, b4⟩ := m_nm0 (c := c) (j := j) (w := w) (n := n) J3 (lo := 0) (hi := 199) z4
            refine mo_qb ⟨m4, ?_, (q2.tr q3).b.tr q4, b4⟩
            rw [S]
            refine lpO_fou J D (by omega) (by omega) (by omega) nb z1 fun f => ?_
            unfold X11_foundLine_L31_s
            rw [R75_16, ob_some, show aI _ 79 8 = _ from M79 (i := 8) (by decide), ob_some, c8, if_pos (by rw [N_le (by omega) (by omega)]; omega), cVv75, e2, ob_some, cV75, show X11_after 75 43 0 199 _ = _ from e3, bd_eq, cV75, show X11_number 75 0 199 _ = _ from e4, bd_eq, I75_13, ob_some, b4.1, if_neg (by decide)]
        · rw [nd_1 z3]
          obtain ⟨m3, e3, q3, b3⟩ := a2 z2 z3
          refine mo_qb ⟨m3, ?_, q2.b.tr q3, b3⟩
          rw [S]
          refine lpO_fou J D (by omega) (by omega) (by omega) nb z1 fun f => ?_
          unfold X11_foundLine_L31_s
          rw [R75_16, ob_some, show aI _ 79 8 = _ from M79 (i := 8) (by decide), ob_some, c8, if_pos (by rw [N_le (by omega) (by omega)]; omega), cVv75, e2, ob_some, cV75, show X11_after 75 43 0 199 _ = _ from e3, bd_eq, cV75, mF_nm b3.1, bd_eq, I75_13, ob_some, b3.1, if_neg (by decide)]
      · rw [nd_1 z2]
        obtain ⟨m3, e3, q3, b3⟩ := a3 z2
        refine mo_qb ⟨m3, ?_, q2.b.tr q3, b3⟩
        rw [S]
        refine lpO_fou J D (by omega) (by omega) (by omega) nb z1 fun f => ?_
        unfold X11_foundLine_L31_s
        rw [R75_16, ob_some, show aI _ 79 8 = _ from M79 (i := 8) (by decide), ob_some, c8, if_pos (by rw [N_le (by omega) (by omega)]; omega), cVv75, e2, ob_some, cV75, show X11_after 75 43 0 199 _ = _ from e3, bd_eq, cV75, mF_nm b3.1, bd_eq, I75_13, ob_some, b3.1, if_neg (by decide)]
    · rw [nd_1 z1]
      obtain ⟨y2, t2⟩ := du1 z1
      obtain ⟨m2, e3, q2, b2⟩ := lpB_fou (c := c) (j := j) (w := w) (n := n) (y0 := nI (74 + 3 * V 20 6)) J D (by omega) (by omega) (by omega) nb z1
      exact mo_qb ⟨m2, by rw [S, e3], q2, by rw [t2]; exact b2⟩
  · rw [nd_1 z0]
    obtain ⟨m1, e1, q1, b1⟩ := m_nh0 (c := c) (j := j) (w := w) (n := n) J (lo := 0) (hi := 12) z0
    refine mo_qb ⟨m1, ?_, q1, b1⟩
    unfold X11_foundLine
    rw [I75_13, ob_some, J.2.2.2, if_pos rfl, R75_16, ob_some, show aI _ 79 8 = _ from M79 (i := 8) (by decide), ob_some, c8, pin_eq, show (74 : Int32) + 3 * nI (V 20 6) = nI (74 + 3 * V 20 6) from IX3 74 _, cV75, show X11_numberHere 75 0 12 _ = _ from e1, bd_eq, lpG_fou (N := V 20 6) (by omega) b1.1 (by rw [q1.1 79 (by decide) (by decide)]; exact k_n D (t := 6) (by decide))]
end
