/-! the reference reads the watch line and the voyage line -/
section
variable {c : Nat → Nat → Int32} {j : Nat → Nat → Int64} {w : Nat → Nat} {m m' : Nat → Nat → Int32} {n : Nat → Nat → Int64} {T : Nat → Nat} {s p : Nat} {V : Nat → Nat → Nat} {F : Hp → Option Hp}
theorem m_111F (h : m 75 13 = 1) (a b d e : Int32) : X11_watchLine_B111 75 a b d e (enc c j w m n) = some (enc c j w m n) := by
  unfold X11_watchLine_B111
  rw [cVv75, mF_pass h, ob_some, cV75, mF_aft h, bd_eq, I75_13, ob_some, h, if_neg (by decide)]
theorem m_wF (h : m 75 13 = 1) (a b d : Int32) : (cV (enc c j w m n) 75 11 (X11_isWord 75 38 (enc c j w m n)) fun v11 h10 => if v11 = 0 then (cV h10 75 11 (X11_isWord 75 39 h10) fun v13 h12 => if v13 = 0 then (cV h12 75 11 (X11_isWord 75 40 h12) fun v15 h14 => if v15 = 0 then (cV h14 75 11 (X11_isWord 75 41 h14) fun v17 h16 => if v17 = 0 then X11_watchLine_B95 75 a b d (-1) h16 else X11_watchLine_B95 75 a b d 3 h16) else X11_watchLine_B95 75 a b d 2 h14) else X11_watchLine_B95 75 a b d 1 h12) else X11_watchLine_B95 75 a b d 0 h10) = some (enc c j w m n) := by
  rw [cV75, m_isB h, bd_eq, if_pos rfl, cV75, m_isB h, bd_eq, if_pos rfl, cV75, m_isB h, bd_eq, if_pos rfl, cV75, m_isB h, bd_eq, if_pos rfl]
  unfold X11_watchLine_B95
  rw [if_neg (by decide), I75_4, ob_some, cVv75, m_wrong1 h, ob_some, m_111F h]
theorem ml_wat (J : JT m T s p) (D : MDt m T V) (g : GP T V) (hN : V 20 2 < 12) : MO T s (X11_watchLine 75) c j w m n (lnWat T s V p) := by
  have c4 : m 79 4 = nI (V 20 2) := k_n D (t := 2) (by decide)
  have nm := D.2.2.2.2.2.2
  unfold lnWat
  by_cases z0 : fOld T s V 0 p = 0
  · rw [nd_0 z0]
    have e0 := m_old1 (c := c) (j := j) (w := w) (n := n) J g nm (r := 0) (by decide) z0
    obtain ⟨m1, e1, q1, J1⟩ := m_pass (c := c) (j := j) (w := w) (n := n) J
    have D1 := q1.d D
    have nm1 := D1.2.2.2.2.2.2
    by_cases z1 : fOld T s V 1 (nxq T s p) = 0
    · rw [nd_0 z1]
      have e2 := m_old1 (c := c) (j := j) (w := w) (n := n) J1 g nm1 (r := 1) (by decide) z1
      obtain ⟨m2, e3, q2, J2⟩ := m_pass (c := c) (j := j) (w := w) (n := n) J1
      have D2 := q2.d D1
      have I : ∀ k, k < 44 → X11_isWord 75 k (enc c j w m2 n) = some (if isW T s k (nxq T s (nxq T s p)) then 1 else 0, enc c j w m2 n) := fun k hk => m_isW J2.1.2.1 J2.2.2.1 J2.2.1 J2.2.2.2 hk
      have S : X11_watchLine 75 (enc c j w m n) = X11_watchLine_B95 75 (nI (V 20 2)) (nI (fix T s V 0 p)) (nI (fix T s V 1 (nxq T s p))) (if (cox T s (nxq T s (nxq T s p))) < 4 then nI (cox T s (nxq T s (nxq T s p))) else -1) (enc c j w m2 n) := by
        unfold X11_watchLine
        rw [I75_13, ob_some, J.2.2.2, if_pos rfl, R75_16, ob_some, show aI _ 79 4 = _ from M79 (i := 4) (by decide), ob_some, c4, cV75, show X11_named 75 0 4 _ = _ from e0, bd_eq, cVv75, e1, ob_some, cV75, show X11_named 75 5 8 _ = _ from e2, bd_eq, cVv75, e3, ob_some, cV75, I 38 (by decide), show isW T s 38 (nxq T s (nxq T s p)) = isW T s 16 (nxq T s (nxq T s p)) from rfl, bd_eq]
        unfold cox
        cases isW T s 16 (nxq T s (nxq T s p)) with
        | true => rw [if_neg (by decide)]; rfl
        | false =>
          rw [if_pos (by decide), cV75, I 39 (by decide), show isW T s 39 (nxq T s (nxq T s p)) = isW T s 17 (nxq T s (nxq T s p)) from rfl, bd_eq]
          cases isW T s 17 (nxq T s (nxq T s p)) with
          | true => rw [if_neg (by decide)]; rfl
          | false =>
            rw [if_pos (by decide), cV75, I 40 (by decide), show isW T s 40 (nxq T s (nxq T s p)) = isW T s 18 (nxq T s (nxq T s p)) from rfl, bd_eq]
            cases isW T s 18 (nxq T s (nxq T s p)) with
            | true => rw [if_neg (by decide)]; rfl
            | false =>
              rw [if_pos (by decide), cV75, I 41 (by decide), show isW T s 41 (nxq T s (nxq T s p)) = isW T s 19 (nxq T s (nxq T s p)) from rfl, bd_eq]
              cases isW T s 19 (nxq T s (nxq T s p)) with
              | true => rw [if_neg (by decide)]; rfl
              | false => rw [if_pos (by decide)]; rfl
      by_cases z2 : fCo T s (nxq T s (nxq T s p)) = 0
      · have hk : (cox T s (nxq T s (nxq T s p))) < 4 := by
          unfold fCo at z2; split at z2
          · assumption
          · cases z2
        rw [nd_0 z2]
        rw [if_pos hk] at S
        obtain ⟨m3, e4, q3, J3⟩ := m_pass (c := c) (j := j) (w := w) (n := n) J2
        have D3 := q3.d D2
        obtain ⟨a1, a2, a3⟩ := m_aft (c := c) (j := j) (w := w) (n := n) J3 (k := 42) (lo := 0) (hi := 9) (by decide) (by decide) (by decide)
        by_cases z3 : fWd T s 20 (nxq T s (nxq T s (nxq T s p))) = 0
        · rw [nd_0 z3]
          by_cases z4 : fNm T s 0 9 (nxq T s (nxq T s (nxq T s (nxq T s p)))) = 0
          · rw [nd_0 z4]
            obtain ⟨m4, e5, q4, J4⟩ := a1 z3 z4
            have D4 := q4.d D3
            have c5 : m4 79 4 = nI (V 20 2) := k_n D4 (t := 2) (by decide)
            refine mo_ok ⟨va_up (va_up m4 81 (upd (upd (m4 81) (V 20 2) (nI (cox T s (nxq T s (nxq T s p))))) (12 + V 20 2) (nI (fix T s V 0 p)))) 79 (upd (upd (upd (m4 79) (26 + 2 * V 20 2) (nI (fix T s V 1 (nxq T s p)))) (26 + 2 * V 20 2 + 1) (nI (whn T s (nxq T s (nxq T s (nxq T s (nxq T s p))))))) 4 (nI (V 20 2 + 1))), ?_, (((q1.tr q2).tr q3).tr q4).x.tr (FMx.wr fun y h h' => by rw [vup_ne _ _ h, vup_ne _ _ h']), J4.wr fun y h h' => by rw [vup_ne _ _ h, vup_ne _ _ h'], ?_⟩
            · rw [S]
              unfold X11_watchLine_B95 X11_watchLine_B111
              rw [if_pos (by rw [show (0 : Int32) = nI 0 from rfl, N_le (by omega) (by omega)]; omega), cVv75, e4, ob_some, cV75, show X11_after 75 42 0 9 _ = _ from e5, bd_eq, I75_13, ob_some, J4.2.2.2, if_pos rfl, R75_18, ob_some, S81 (by omega), ob_some, R75_18, ob_some, show (12 : Int32) + nI (V 20 2) = nI (12 + V 20 2) from N_add 12 _, S81 (by omega), ob_some, vup_at, vup_up, R75_16, ob_some, show (26 : Int32) + 2 * nI (V 20 2) = nI (26 + 2 * V 20 2) from IX 26 _, S79 (by omega), ob_some, R75_16, ob_some, show nI (26 + 2 * V 20 2) + 1 = nI (26 + 2 * V 20 2 + 1) from N_add _ 1, S79 (by omega), ob_some, R75_16, ob_some, vup_at, vup_up, vup_ne _ _ (show (79 : Nat) ≠ 81 by decide), show aI _ 79 4 = _ from M79 (i := 4) (by decide), ob_some, vup_at, upd_ne (by omega), upd_ne (by omega), c5, show nI (V 20 2) + 1 = nI (V 20 2 + 1) from N_add _ 1, show sI _ 79 4 _ = _ from S79 (i := 4) (by decide), ob_some, vup_at, vup_up]
            · have A : ∀ a x, a ≠ 20 → gWat (fix T s V 0 p) (fix T s V 1 (nxq T s p)) (cox T s (nxq T s (nxq T s p))) (whn T s (nxq T s (nxq T s (nxq T s (nxq T s p))))) a = some x → ad V 2 (gWat (fix T s V 0 p) (fix T s V 1 (nxq T s p)) (cox T s (nxq T s (nxq T s p))) (whn T s (nxq T s (nxq T s (nxq T s (nxq T s p)))))) a (V 20 2) = x := fun a x h1 h2 => ad_at h1 h2
              have b1 : mb 2 = 26 := rfl
              have b2 : mw 2 = 2 := rfl
              refine md_add D4 g (t := 2) (by decide) hN (gg_Wat _ _ _ _) (fun x h1 h2 _ => ?_) ?_ (fun q hq => ?_) (fun z => absurd rfl z) (fun _ => ⟨?_, ?_, fun x h1 h2 => ?_⟩) (fun z => absurd z (by decide))
              · rw [b1, b2] at h2
                rw [vup_at, upd_ne (by omega), upd_ne (by omega), upd_ne (by omega)]
              · rw [vup_at]; exact upd_at
              · rw [vup_at]
                by_cases q0 : q = 0
                · subst q0
                  show upd _ _ _ (26 + 2 * V 20 2) = _
                  rw [upd_ne (by omega), upd_ne (by omega), upd_at]
                  exact congrArg nI (A 3 _ (by decide) rfl).symm
                · have q1' : q = 1 := by omega
                  subst q1'
                  show upd _ _ _ (26 + 2 * V 20 2 + 1) = _
                  rw [upd_ne (by omega), upd_at]
                  exact congrArg nI (A 4 _ (by decide) rfl).symm
              · rw [vup_ne _ _ (by decide), vup_at, upd_ne (by omega), upd_at, A 12 _ (by decide) rfl]
              · rw [vup_ne _ _ (by decide), vup_at, upd_at, A 11 _ (by decide) rfl]
              · rw [vup_ne _ _ (by decide), vup_at, upd_ne h2, upd_ne h1]
          · rw [nd_1 z4]
            obtain ⟨m4, e5, q4, b4⟩ := a2 z3 z4
            refine mo_qb ⟨m4, ?_, ((q1.tr q2).tr q3).b.tr q4, b4⟩
            rw [S]
            unfold X11_watchLine_B95 X11_watchLine_B111
            rw [if_pos (by rw [show (0 : Int32) = nI 0 from rfl, N_le (by omega) (by omega)]; omega), cVv75, e4, ob_some, cV75, show X11_after 75 42 0 9 _ = _ from e5, bd_eq, I75_13, ob_some, b4.1, if_neg (by decide)]
        · rw [nd_1 z3]
          obtain ⟨m4, e5, q4, b4⟩ := a3 z3
          refine mo_qb ⟨m4, ?_, ((q1.tr q2).tr q3).b.tr q4, b4⟩
          rw [S]
          unfold X11_watchLine_B95 X11_watchLine_B111
          rw [if_pos (by rw [show (0 : Int32) = nI 0 from rfl, N_le (by omega) (by omega)]; omega), cVv75, e4, ob_some, cV75, show X11_after 75 42 0 9 _ = _ from e5, bd_eq, I75_13, ob_some, b4.1, if_neg (by decide)]
      · have hk : ¬ (cox T s (nxq T s (nxq T s p))) < 4 := fun y => z2 (by unfold fCo; rw [if_pos y])
        have hf : fCo T s (nxq T s (nxq T s p)) = 1 := by unfold fCo; rw [if_neg hk]
        rw [nd_1 z2, hf]
        rw [if_neg hk] at S
        obtain ⟨m3, e4, q3, b3⟩ := m_wrong0 (c := c) (j := j) (w := w) (n := n) J2.2.2.2 (f := 1) J2.2.1.1
        refine mo_qb ⟨m3, ?_, (q1.tr q2).b.tr q3, b3⟩
        rw [S]
        unfold X11_watchLine_B95
        rw [if_neg (by decide), I75_4, ob_some, cVv75, show X11_wrong 75 1 _ _ = _ from e4, ob_some, m_111F b3.1]
    · rw [nd_1 z1]
      obtain ⟨m2, e2, q2, b2⟩ := m_old0 (c := c) (j := j) (w := w) (n := n) J1 g nm1 (r := 1) (by decide) z1
      refine mo_qb ⟨m2, ?_, q1.b.tr q2, b2⟩
      unfold X11_watchLine
      rw [I75_13, ob_some, J.2.2.2, if_pos rfl, R75_16, ob_some, show aI _ 79 4 = _ from M79 (i := 4) (by decide), ob_some, c4, cV75, show X11_named 75 0 4 _ = _ from e0, bd_eq, cVv75, e1, ob_some, cV75, show X11_named 75 5 8 _ = _ from e2, bd_eq, cVv75, mF_pass b2.1, ob_some]
      exact m_wF b2.1 _ _ _
  · rw [nd_1 z0]
    obtain ⟨m1, e1, q1, b1⟩ := m_old0 (c := c) (j := j) (w := w) (n := n) J g nm (r := 0) (by decide) z0
    refine mo_qb ⟨m1, ?_, q1, b1⟩
    unfold X11_watchLine
    rw [I75_13, ob_some, J.2.2.2, if_pos rfl, R75_16, ob_some, show aI _ 79 4 = _ from M79 (i := 4) (by decide), ob_some, c4, cV75, show X11_named 75 0 4 _ = _ from e1, bd_eq, cVv75, mF_pass b1.1, ob_some, cV75, mF_old b1.1, bd_eq, cVv75, mF_pass b1.1, ob_some]
    exact m_wF b1.1 _ _ _
theorem md_vyg (D : MDt m T V) {a b d e : Nat} (h : ∀ x, x ≠ 0 → x ≠ 1 → x ≠ 9 → x ≠ 10 → x ≠ 11 → m' 79 x = m 79 x) (h0 : m' 79 0 = nI d) (h1 : m' 79 1 = nI e) (h9 : m' 79 9 = 1) (h10 : m' 79 10 = nI a) (h11 : m' 79 11 = nI b) (h81 : m' 81 = m 81) : MDt m' T (vyg V a b d e) := by
  obtain ⟨-, d5, -, d7, d8, d9, d10, d11⟩ := D
  refine ⟨⟨?_, ?_, ?_, ?_⟩, fun t ht => ?_, ?_, fun t ht i hi q hq => ?_, fun k hk => ?_, by rw [h81]; exact d9, fun r hr i hi => ?_, fun r hr i h1 h2 => ?_⟩
  · unfold vyg; rw [sv_ne (by omega), sv_at]; exact h0
  · unfold vyg; rw [sv_at]; exact h1
  · unfold vyg; rw [sv_ne (by omega), sv_ne (by omega), sv_ne (by omega), sv_at]; exact h10
  · unfold vyg; rw [sv_ne (by omega), sv_ne (by omega), sv_at]; exact h11
  · rw [vy_c ht, h _ (by omega) (by omega) (by omega) (by omega) (by omega)]; exact d5 t ht
  · unfold vyg; rw [sv_ne (by omega), sv_ne (by omega), sv_ne (by omega), sv_ne (by omega), sv_at]; exact h9
  · rw [vy_c ht] at hi
    have w3 := mw_ok t ht
    rw [h _ (by omega) (by omega) (by omega) (by omega) (by omega), d7 t ht i hi q hq]
    refine congrArg nI ?_
    unfold mcol
    repeat' split
    all_goals exact (vy_o (by decide)).symm
  · rw [vy_c (by omega)] at hk
    rw [h81, vy_o (by decide), vy_o (by decide)]; exact d8 k hk
  · rw [vy_c (by omega)] at hi
    rw [vy_o (by omega), vy_o (by omega)]
    obtain ⟨k1, k2⟩ := d10 r hr i hi
    exact ⟨by rw [h _ (by omega) (by omega) (by omega) (by omega) (by omega)]; exact k1, fun k hk => by rw [h _ (by omega) (by omega) (by omega) (by omega) (by omega)]; exact k2 k hk⟩
  · rw [vy_c (by omega)] at h1
    rw [h _ (by omega) (by omega) (by omega) (by omega) (by omega)]; exact d11 r hr i h1 h2
theorem ml_voy (J : JT m T s p) (D : MDt m T V) : MO T s (X11_voyageLine_B19 75) c j w m n (lnVoy T s V (nxq T s p)) := by
  unfold lnVoy
  obtain ⟨m1, e1, q1, J1⟩ := m_adv (c := c) (j := j) (w := w) (n := n) J
  obtain ⟨a21, a22, a23⟩ := m_aft (c := c) (j := j) (w := w) (n := n) J1 (k := 23) (lo := 0) (hi := 199) (by decide) (by decide) (by decide)
  by_cases z20 : fWd T s 1 (nxq T s p) = 0
  · rw [nd_0 z20]
    by_cases z21 : fNm T s 0 199 (nxq T s (nxq T s p)) = 0
    · rw [nd_0 z21]
      obtain ⟨m2, e2, q2, J2⟩ := a21 z20 z21
      have K2 : JT (va_up m2 79 (upd (m2 79) 10 (nI (whn T s (nxq T s (nxq T s p)))))) T s (nxq T s (nxq T s (nxq T s p))) := J2.wr fun y h _ => vup_ne _ _ h
      have O2 : (va_up m2 79 (upd (m2 79) 10 (nI (whn T s (nxq T s (nxq T s p)))))) 79 = upd (m1 79) 10 (nI (whn T s (nxq T s (nxq T s p)))) := by rw [vup_at, q2.1 79 (by decide) (by decide)]
      by_cases z31 : fNm T s 0 199 (nxq T s (nxq T s (nxq T s p))) = 0
      · rw [nd_0 z31]
        obtain ⟨m3, e3, q3, J3⟩ := m_nm1 (c := c) (j := j) (w := w) (n := n) K2 (lo := 0) (hi := 199) (by decide) (by decide) z31
        have K3 : JT (va_up m3 79 (upd (m3 79) 11 (nI (whn T s (nxq T s (nxq T s (nxq T s p))))))) T s (nxq T s (nxq T s (nxq T s (nxq T s p)))) := J3.wr fun y h _ => vup_ne _ _ h
        have O3 : (va_up m3 79 (upd (m3 79) 11 (nI (whn T s (nxq T s (nxq T s (nxq T s p))))))) 79 = upd ((va_up m2 79 (upd (m2 79) 10 (nI (whn T s (nxq T s (nxq T s p)))))) 79) 11 (nI (whn T s (nxq T s (nxq T s (nxq T s p))))) := by rw [vup_at, q3.1 79 (by decide) (by decide)]
        obtain ⟨a41, a42, a43⟩ := m_aft (c := c) (j := j) (w := w) (n := n) K3 (k := 24) (lo := 0) (hi := 100) (by decide) (by decide) (by decide)
        by_cases z40 : fWd T s 2 (nxq T s (nxq T s (nxq T s (nxq T s p)))) = 0
        · rw [nd_0 z40]
          by_cases z41 : fNm T s 0 100 (nxq T s (nxq T s (nxq T s (nxq T s (nxq T s p))))) = 0
          · rw [nd_0 z41]
            obtain ⟨m4, e4, q4, J4⟩ := a41 z40 z41
            have K4 : JT (va_up m4 79 (upd (m4 79) 0 (nI (whn T s (nxq T s (nxq T s (nxq T s (nxq T s (nxq T s p))))))))) T s (nxq T s (nxq T s (nxq T s (nxq T s (nxq T s (nxq T s p)))))) := J4.wr fun y h _ => vup_ne _ _ h
            have O4 : (va_up m4 79 (upd (m4 79) 0 (nI (whn T s (nxq T s (nxq T s (nxq T s (nxq T s (nxq T s p))))))))) 79 = upd ((va_up m3 79 (upd (m3 79) 11 (nI (whn T s (nxq T s (nxq T s (nxq T s p))))))) 79) 0 (nI (whn T s (nxq T s (nxq T s (nxq T s (nxq T s (nxq T s p))))))) := by rw [vup_at, q4.1 79 (by decide) (by decide)]
            obtain ⟨a51, a52, a53⟩ := m_aft (c := c) (j := j) (w := w) (n := n) K4 (k := 25) (lo := 0) (hi := 100) (by decide) (by decide) (by decide)
            by_cases z50 : fWd T s 3 (nxq T s (nxq T s (nxq T s (nxq T s (nxq T s (nxq T s p)))))) = 0
            · rw [nd_0 z50]
              by_cases z51 : fNm T s 0 100 (nxq T s (nxq T s (nxq T s (nxq T s (nxq T s (nxq T s (nxq T s p))))))) = 0
              · rw [nd_0 z51]
                obtain ⟨m5, e5, q5, J5⟩ := a51 z50 z51
                have K5 : JT (va_up m5 79 (upd (m5 79) 1 (nI (whn T s (nxq T s (nxq T s (nxq T s (nxq T s (nxq T s (nxq T s (nxq T s p))))))))))) T s (nxq T s (nxq T s (nxq T s (nxq T s (nxq T s (nxq T s (nxq T s (nxq T s p)))))))) := J5.wr fun y h _ => vup_ne _ _ h
                have O5 : (va_up m5 79 (upd (m5 79) 1 (nI (whn T s (nxq T s (nxq T s (nxq T s (nxq T s (nxq T s (nxq T s (nxq T s p))))))))))) 79 = upd ((va_up m4 79 (upd (m4 79) 0 (nI (whn T s (nxq T s (nxq T s (nxq T s (nxq T s (nxq T s p))))))))) 79) 1 (nI (whn T s (nxq T s (nxq T s (nxq T s (nxq T s (nxq T s (nxq T s (nxq T s p))))))))) := by rw [vup_at, q5.1 79 (by decide) (by decide)]
                have O1 : m1 79 = m 79 := q1.1 79 (by decide) (by decide)
                have R : ∀ x, va_up (va_up m5 79 (upd (m5 79) 1 (nI (whn T s (nxq T s (nxq T s (nxq T s (nxq T s (nxq T s (nxq T s (nxq T s p))))))))))) 79 (upd ((va_up m5 79 (upd (m5 79) 1 (nI (whn T s (nxq T s (nxq T s (nxq T s (nxq T s (nxq T s (nxq T s (nxq T s p))))))))))) 79) 9 1) 79 x = upd (upd (upd (upd (upd (m 79) 10 (nI (whn T s (nxq T s (nxq T s p))))) 11 (nI (whn T s (nxq T s (nxq T s (nxq T s p)))))) 0 (nI (whn T s (nxq T s (nxq T s (nxq T s (nxq T s (nxq T s p)))))))) 1 (nI (whn T s (nxq T s (nxq T s (nxq T s (nxq T s (nxq T s (nxq T s (nxq T s p)))))))))) 9 1 x := fun x => by rw [vup_at, O5, O4, O3, O2, O1]
                refine mo_ok ⟨va_up (va_up m5 79 (upd (m5 79) 1 (nI (whn T s (nxq T s (nxq T s (nxq T s (nxq T s (nxq T s (nxq T s (nxq T s p))))))))))) 79 (upd ((va_up m5 79 (upd (m5 79) 1 (nI (whn T s (nxq T s (nxq T s (nxq T s (nxq T s (nxq T s (nxq T s (nxq T s p))))))))))) 79) 9 1), ?_, (((((((((q1.x).tr q2.x).tr (FMx.wr fun y h _ => vup_ne _ _ h)).tr q3.x).tr (FMx.wr fun y h _ => vup_ne _ _ h)).tr q4.x).tr (FMx.wr fun y h _ => vup_ne _ _ h)).tr q5.x).tr (FMx.wr fun y h _ => vup_ne _ _ h)).tr (FMx.wr fun y h _ => vup_ne _ _ h), K5.wr fun y h _ => vup_ne _ _ h, ?_⟩
                · unfold X11_voyageLine_B19
                  rw [I75_13, ob_some, J.2.2.2, if_pos rfl, cVv75, e1, ob_some, R75_16, ob_some, cV75, show X11_after 75 23 0 199 _ = _ from e2, bd_eq, show sI _ 79 10 _ = _ from S79 (i := 10) (by decide), ob_some, R75_16, ob_some, cV75, show X11_number 75 0 199 _ = _ from e3, bd_eq, show sI _ 79 11 _ = _ from S79 (i := 11) (by decide), ob_some, R75_16, ob_some, cV75, show X11_after 75 24 0 100 _ = _ from e4, bd_eq, show sI _ 79 0 _ = _ from S79 (i := 0) (by decide), ob_some, R75_16, ob_some, cV75, show X11_after 75 25 0 100 _ = _ from e5, bd_eq, show sI _ 79 1 _ = _ from S79 (i := 1) (by decide), ob_some, I75_13, ob_some, vup_ne _ _ (show (75 : Nat) ≠ 79 by decide), J5.2.2.2, if_pos rfl, R75_16, ob_some, show sI _ 79 9 _ = _ from S79 (i := 9) (by decide), ob_some]
                · refine md_vyg D (fun x h0 h1 h9 h10 h11 => by rw [R, upd_ne h9, upd_ne h1, upd_ne h0, upd_ne h11, upd_ne h10]) (by rw [R, upd_ne (by decide), upd_ne (by decide), upd_at]) (by rw [R, upd_ne (by decide), upd_at]) (by rw [R, upd_at]) (by rw [R, upd_ne (by decide), upd_ne (by decide), upd_ne (by decide), upd_ne (by decide), upd_at]) (by rw [R, upd_ne (by decide), upd_ne (by decide), upd_ne (by decide), upd_at]) ?_
                  rw [vup_ne _ _ (by decide), vup_ne _ _ (by decide), q5.1 81 (by decide) (by decide), vup_ne _ _ (by decide), q4.1 81 (by decide) (by decide), vup_ne _ _ (by decide), q3.1 81 (by decide) (by decide), vup_ne _ _ (by decide), q2.1 81 (by decide) (by decide), q1.1 81 (by decide) (by decide)]
              · rw [nd_1 z51]
                obtain ⟨mb', eb, qb, b⟩ := a52 z50 z51
                have ob' : mb' 79 = _ := qb.1 79 (by decide) (by decide)
                refine mo_no ?_
                unfold X11_voyageLine_B19
                rw [I75_13, ob_some, J.2.2.2, if_pos rfl, cVv75, e1, ob_some, R75_16, ob_some, cV75, show X11_after 75 23 0 199 _ = _ from e2, bd_eq, show sI _ 79 10 _ = _ from S79 (i := 10) (by decide), ob_some, R75_16, ob_some, cV75, show X11_number 75 0 199 _ = _ from e3, bd_eq, show sI _ 79 11 _ = _ from S79 (i := 11) (by decide), ob_some, R75_16, ob_some, cV75, show X11_after 75 24 0 100 _ = _ from e4, bd_eq, show sI _ 79 0 _ = _ from S79 (i := 0) (by decide), ob_some, R75_16, ob_some, cV75, show X11_after 75 25 0 100 _ = _ from eb, bd_eq, show sI _ 79 1 _ = _ from S79 (i := 1) (by decide), ob_some, I75_13, ob_some, vup_ne _ _ (show (75 : Nat) ≠ 79 by decide), b.1, if_neg (by decide)]
                exact ⟨_, rfl, ((((((((q1.x).tr q2.x).tr (FMx.wr fun y h _ => vup_ne _ _ h)).tr q3.x).tr (FMx.wr fun y h _ => vup_ne _ _ h)).tr q4.x).tr (FMx.wr fun y h _ => vup_ne _ _ h)).tr qb.x).tr (FMx.wr fun y h _ => vup_ne _ _ h), b.wr (by rw [vup_ne _ _ (show (75 : Nat) ≠ 79 by decide)]), by rw [vup_at, upd_ne (by decide), ob', O4, upd_ne (by decide), O3, upd_ne (by decide), O2, upd_ne (by decide), q1.1 79 (by decide) (by decide)], by rw [vup_at, upd_ne (by decide), ob', O4, upd_ne (by decide), O3, upd_ne (by decide), O2, upd_ne (by decide), q1.1 79 (by decide) (by decide)]⟩
            · rw [nd_1 z50]
              obtain ⟨mb', eb, qb, b⟩ := a53 z50
              have ob' : mb' 79 = _ := qb.1 79 (by decide) (by decide)
              refine mo_no ?_
              unfold X11_voyageLine_B19
              rw [I75_13, ob_some, J.2.2.2, if_pos rfl, cVv75, e1, ob_some, R75_16, ob_some, cV75, show X11_after 75 23 0 199 _ = _ from e2, bd_eq, show sI _ 79 10 _ = _ from S79 (i := 10) (by decide), ob_some, R75_16, ob_some, cV75, show X11_number 75 0 199 _ = _ from e3, bd_eq, show sI _ 79 11 _ = _ from S79 (i := 11) (by decide), ob_some, R75_16, ob_some, cV75, show X11_after 75 24 0 100 _ = _ from e4, bd_eq, show sI _ 79 0 _ = _ from S79 (i := 0) (by decide), ob_some, R75_16, ob_some, cV75, show X11_after 75 25 0 100 _ = _ from eb, bd_eq, show sI _ 79 1 _ = _ from S79 (i := 1) (by decide), ob_some, I75_13, ob_some, vup_ne _ _ (show (75 : Nat) ≠ 79 by decide), b.1, if_neg (by decide)]
              exact ⟨_, rfl, ((((((((q1.x).tr q2.x).tr (FMx.wr fun y h _ => vup_ne _ _ h)).tr q3.x).tr (FMx.wr fun y h _ => vup_ne _ _ h)).tr q4.x).tr (FMx.wr fun y h _ => vup_ne _ _ h)).tr qb.x).tr (FMx.wr fun y h _ => vup_ne _ _ h), b.wr (by rw [vup_ne _ _ (show (75 : Nat) ≠ 79 by decide)]), by rw [vup_at, upd_ne (by decide), ob', O4, upd_ne (by decide), O3, upd_ne (by decide), O2, upd_ne (by decide), q1.1 79 (by decide) (by decide)], by rw [vup_at, upd_ne (by decide), ob', O4, upd_ne (by decide), O3, upd_ne (by decide), O2, upd_ne (by decide), q1.1 79 (by decide) (by decide)]⟩
          · rw [nd_1 z41]
            obtain ⟨mb', eb, qb, b⟩ := a42 z40 z41
            have ob' : mb' 79 = _ := qb.1 79 (by decide) (by decide)
            refine mo_no ?_
            unfold X11_voyageLine_B19
            rw [I75_13, ob_some, J.2.2.2, if_pos rfl, cVv75, e1, ob_some, R75_16, ob_some, cV75, show X11_after 75 23 0 199 _ = _ from e2, bd_eq, show sI _ 79 10 _ = _ from S79 (i := 10) (by decide), ob_some, R75_16, ob_some, cV75, show X11_number 75 0 199 _ = _ from e3, bd_eq, show sI _ 79 11 _ = _ from S79 (i := 11) (by decide), ob_some, R75_16, ob_some, cV75, show X11_after 75 24 0 100 _ = _ from eb, bd_eq, show sI _ 79 0 _ = _ from S79 (i := 0) (by decide), ob_some, R75_16, ob_some, cV75, mF_aft (by rw [vup_ne _ _ (show (75 : Nat) ≠ 79 by decide)]; exact b.1), bd_eq, show sI _ 79 1 _ = _ from S79 (i := 1) (by decide), ob_some, I75_13, ob_some, vup_ne _ _ (show (75 : Nat) ≠ 79 by decide), vup_ne _ _ (show (75 : Nat) ≠ 79 by decide), b.1, if_neg (by decide)]
            exact ⟨_, rfl, (((((((q1.x).tr q2.x).tr (FMx.wr fun y h _ => vup_ne _ _ h)).tr q3.x).tr (FMx.wr fun y h _ => vup_ne _ _ h)).tr qb.x).tr (FMx.wr fun y h _ => vup_ne _ _ h)).tr (FMx.wr fun y h _ => vup_ne _ _ h), b.wr (by rw [vup_ne _ _ (show (75 : Nat) ≠ 79 by decide), vup_ne _ _ (show (75 : Nat) ≠ 79 by decide)]), by rw [vup_at, upd_ne (by decide), vup_at, upd_ne (by decide), ob', O3, upd_ne (by decide), O2, upd_ne (by decide), q1.1 79 (by decide) (by decide)], by rw [vup_at, upd_ne (by decide), vup_at, upd_ne (by decide), ob', O3, upd_ne (by decide), O2, upd_ne (by decide), q1.1 79 (by decide) (by decide)]⟩
        · rw [nd_1 z40]
          obtain ⟨mb', eb, qb, b⟩ := a43 z40
          have ob' : mb' 79 = _ := qb.1 79 (by decide) (by decide)
          refine mo_no ?_
          unfold X11_voyageLine_B19
          rw [I75_13, ob_some, J.2.2.2, if_pos rfl, cVv75, e1, ob_some, R75_16, ob_some, cV75, show X11_after 75 23 0 199 _ = _ from e2, bd_eq, show sI _ 79 10 _ = _ from S79 (i := 10) (by decide), ob_some, R75_16, ob_some, cV75, show X11_number 75 0 199 _ = _ from e3, bd_eq, show sI _ 79 11 _ = _ from S79 (i := 11) (by decide), ob_some, R75_16, ob_some, cV75, show X11_after 75 24 0 100 _ = _ from eb, bd_eq, show sI _ 79 0 _ = _ from S79 (i := 0) (by decide), ob_some, R75_16, ob_some, cV75, mF_aft (by rw [vup_ne _ _ (show (75 : Nat) ≠ 79 by decide)]; exact b.1), bd_eq, show sI _ 79 1 _ = _ from S79 (i := 1) (by decide), ob_some, I75_13, ob_some, vup_ne _ _ (show (75 : Nat) ≠ 79 by decide), vup_ne _ _ (show (75 : Nat) ≠ 79 by decide), b.1, if_neg (by decide)]
          exact ⟨_, rfl, (((((((q1.x).tr q2.x).tr (FMx.wr fun y h _ => vup_ne _ _ h)).tr q3.x).tr (FMx.wr fun y h _ => vup_ne _ _ h)).tr qb.x).tr (FMx.wr fun y h _ => vup_ne _ _ h)).tr (FMx.wr fun y h _ => vup_ne _ _ h), b.wr (by rw [vup_ne _ _ (show (75 : Nat) ≠ 79 by decide), vup_ne _ _ (show (75 : Nat) ≠ 79 by decide)]), by rw [vup_at, upd_ne (by decide), vup_at, upd_ne (by decide), ob', O3, upd_ne (by decide), O2, upd_ne (by decide), q1.1 79 (by decide) (by decide)], by rw [vup_at, upd_ne (by decide), vup_at, upd_ne (by decide), ob', O3, upd_ne (by decide), O2, upd_ne (by decide), q1.1 79 (by decide) (by decide)]⟩
      · rw [nd_1 z31]
        obtain ⟨mb', eb, qb, b⟩ := m_nm0 (c := c) (j := j) (w := w) (n := n) K2 (lo := 0) (hi := 199) z31
        have ob' : mb' 79 = _ := qb.1 79 (by decide) (by decide)
        refine mo_no ?_
        unfold X11_voyageLine_B19
        rw [I75_13, ob_some, J.2.2.2, if_pos rfl, cVv75, e1, ob_some, R75_16, ob_some, cV75, show X11_after 75 23 0 199 _ = _ from e2, bd_eq, show sI _ 79 10 _ = _ from S79 (i := 10) (by decide), ob_some, R75_16, ob_some, cV75, show X11_number 75 0 199 _ = _ from eb, bd_eq, show sI _ 79 11 _ = _ from S79 (i := 11) (by decide), ob_some, R75_16, ob_some, cV75, mF_aft (by rw [vup_ne _ _ (show (75 : Nat) ≠ 79 by decide)]; exact b.1), bd_eq, show sI _ 79 0 _ = _ from S79 (i := 0) (by decide), ob_some, R75_16, ob_some, cV75, mF_aft (by rw [vup_ne _ _ (show (75 : Nat) ≠ 79 by decide), vup_ne _ _ (show (75 : Nat) ≠ 79 by decide)]; exact b.1), bd_eq, show sI _ 79 1 _ = _ from S79 (i := 1) (by decide), ob_some, I75_13, ob_some, vup_ne _ _ (show (75 : Nat) ≠ 79 by decide), vup_ne _ _ (show (75 : Nat) ≠ 79 by decide), vup_ne _ _ (show (75 : Nat) ≠ 79 by decide), b.1, if_neg (by decide)]
        exact ⟨_, rfl, ((((((q1.x).tr q2.x).tr (FMx.wr fun y h _ => vup_ne _ _ h)).tr qb.x).tr (FMx.wr fun y h _ => vup_ne _ _ h)).tr (FMx.wr fun y h _ => vup_ne _ _ h)).tr (FMx.wr fun y h _ => vup_ne _ _ h), b.wr (by rw [vup_ne _ _ (show (75 : Nat) ≠ 79 by decide), vup_ne _ _ (show (75 : Nat) ≠ 79 by decide), vup_ne _ _ (show (75 : Nat) ≠ 79 by decide)]), by rw [vup_at, upd_ne (by decide), vup_at, upd_ne (by decide), vup_at, upd_ne (by decide), ob', O2, upd_ne (by decide), q1.1 79 (by decide) (by decide)], by rw [vup_at, upd_ne (by decide), vup_at, upd_ne (by decide), vup_at, upd_ne (by decide), ob', O2, upd_ne (by decide), q1.1 79 (by decide) (by decide)]⟩
    · rw [nd_1 z21]
      obtain ⟨mb', eb, qb, b⟩ := a22 z20 z21
      have ob' : mb' 79 = _ := qb.1 79 (by decide) (by decide)
      refine mo_no ?_
      unfold X11_voyageLine_B19
      rw [I75_13, ob_some, J.2.2.2, if_pos rfl, cVv75, e1, ob_some, R75_16, ob_some, cV75, show X11_after 75 23 0 199 _ = _ from eb, bd_eq, show sI _ 79 10 _ = _ from S79 (i := 10) (by decide), ob_some, R75_16, ob_some, cV75, mF_nm (by rw [vup_ne _ _ (show (75 : Nat) ≠ 79 by decide)]; exact b.1), bd_eq, show sI _ 79 11 _ = _ from S79 (i := 11) (by decide), ob_some, R75_16, ob_some, cV75, mF_aft (by rw [vup_ne _ _ (show (75 : Nat) ≠ 79 by decide), vup_ne _ _ (show (75 : Nat) ≠ 79 by decide)]; exact b.1), bd_eq, show sI _ 79 0 _ = _ from S79 (i := 0) (by decide), ob_some, R75_16, ob_some, cV75, mF_aft (by rw [vup_ne _ _ (show (75 : Nat) ≠ 79 by decide), vup_ne _ _ (show (75 : Nat) ≠ 79 by decide), vup_ne _ _ (show (75 : Nat) ≠ 79 by decide)]; exact b.1), bd_eq, show sI _ 79 1 _ = _ from S79 (i := 1) (by decide), ob_some, I75_13, ob_some, vup_ne _ _ (show (75 : Nat) ≠ 79 by decide), vup_ne _ _ (show (75 : Nat) ≠ 79 by decide), vup_ne _ _ (show (75 : Nat) ≠ 79 by decide), vup_ne _ _ (show (75 : Nat) ≠ 79 by decide), b.1, if_neg (by decide)]
      exact ⟨_, rfl, (((((q1.x).tr qb.x).tr (FMx.wr fun y h _ => vup_ne _ _ h)).tr (FMx.wr fun y h _ => vup_ne _ _ h)).tr (FMx.wr fun y h _ => vup_ne _ _ h)).tr (FMx.wr fun y h _ => vup_ne _ _ h), b.wr (by rw [vup_ne _ _ (show (75 : Nat) ≠ 79 by decide), vup_ne _ _ (show (75 : Nat) ≠ 79 by decide), vup_ne _ _ (show (75 : Nat) ≠ 79 by decide), vup_ne _ _ (show (75 : Nat) ≠ 79 by decide)]), by rw [vup_at, upd_ne (by decide), vup_at, upd_ne (by decide), vup_at, upd_ne (by decide), vup_at, upd_ne (by decide), ob', q1.1 79 (by decide) (by decide)], by rw [vup_at, upd_ne (by decide), vup_at, upd_ne (by decide), vup_at, upd_ne (by decide), vup_at, upd_ne (by decide), ob', q1.1 79 (by decide) (by decide)]⟩
  · rw [nd_1 z20]
    obtain ⟨mb', eb, qb, b⟩ := a23 z20
    have ob' : mb' 79 = _ := qb.1 79 (by decide) (by decide)
    refine mo_no ?_
    unfold X11_voyageLine_B19
    rw [I75_13, ob_some, J.2.2.2, if_pos rfl, cVv75, e1, ob_some, R75_16, ob_some, cV75, show X11_after 75 23 0 199 _ = _ from eb, bd_eq, show sI _ 79 10 _ = _ from S79 (i := 10) (by decide), ob_some, R75_16, ob_some, cV75, mF_nm (by rw [vup_ne _ _ (show (75 : Nat) ≠ 79 by decide)]; exact b.1), bd_eq, show sI _ 79 11 _ = _ from S79 (i := 11) (by decide), ob_some, R75_16, ob_some, cV75, mF_aft (by rw [vup_ne _ _ (show (75 : Nat) ≠ 79 by decide), vup_ne _ _ (show (75 : Nat) ≠ 79 by decide)]; exact b.1), bd_eq, show sI _ 79 0 _ = _ from S79 (i := 0) (by decide), ob_some, R75_16, ob_some, cV75, mF_aft (by rw [vup_ne _ _ (show (75 : Nat) ≠ 79 by decide), vup_ne _ _ (show (75 : Nat) ≠ 79 by decide), vup_ne _ _ (show (75 : Nat) ≠ 79 by decide)]; exact b.1), bd_eq, show sI _ 79 1 _ = _ from S79 (i := 1) (by decide), ob_some, I75_13, ob_some, vup_ne _ _ (show (75 : Nat) ≠ 79 by decide), vup_ne _ _ (show (75 : Nat) ≠ 79 by decide), vup_ne _ _ (show (75 : Nat) ≠ 79 by decide), vup_ne _ _ (show (75 : Nat) ≠ 79 by decide), b.1, if_neg (by decide)]
    exact ⟨_, rfl, (((((q1.x).tr qb.x).tr (FMx.wr fun y h _ => vup_ne _ _ h)).tr (FMx.wr fun y h _ => vup_ne _ _ h)).tr (FMx.wr fun y h _ => vup_ne _ _ h)).tr (FMx.wr fun y h _ => vup_ne _ _ h), b.wr (by rw [vup_ne _ _ (show (75 : Nat) ≠ 79 by decide), vup_ne _ _ (show (75 : Nat) ≠ 79 by decide), vup_ne _ _ (show (75 : Nat) ≠ 79 by decide), vup_ne _ _ (show (75 : Nat) ≠ 79 by decide)]), by rw [vup_at, upd_ne (by decide), vup_at, upd_ne (by decide), vup_at, upd_ne (by decide), vup_at, upd_ne (by decide), ob', q1.1 79 (by decide) (by decide)], by rw [vup_at, upd_ne (by decide), vup_at, upd_ne (by decide), vup_at, upd_ne (by decide), vup_at, upd_ne (by decide), ob', q1.1 79 (by decide) (by decide)]⟩
end
