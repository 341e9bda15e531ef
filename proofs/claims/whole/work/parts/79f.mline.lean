/-! the reference reads the lines with names, and the voyage line -/
section
variable {c : Nat → Nat → Int32} {j : Nat → Nat → Int64} {w : Nat → Nat} {m m' : Nat → Nat → Int32} {n : Nat → Nat → Int64} {T : Nat → Nat} {s p : Nat} {V : Nat → Nat → Nat} {F : Hp → Option Hp}
theorem BF.wr {f q : Nat} (h : BF m f q) (e : m' 75 = m 75) : BF m' f q := by unfold BF; rw [e]; exact h
theorem QN.x {sl : Nat} (h : QN m m' sl) : FMx m m' := ⟨fun y h1 h2 h3 _ => h.1 y h1 h2 h3, fun f h1 h2 h3 h4 h5 _ _ _ => h.2.1 f h1 h2 h3 h4 h5⟩
theorem QN.k {sl x : Nat} (h : QN m m' sl) (hx : x < 83) : m' 79 x = m 79 x := h.2.2 x (by omega) (Or.inl (by omega))
theorem ml_off (J : JT m T s p) (D : MDt m T V) (g : GP T V) (hN : V 20 1 < 4) : MO T s (X11_officerLine 75) c j w m n (lnOff T s V p) := by
  have c3 : m 79 3 = nI (V 20 1) := k_n D (t := 1) (by decide)
  have nm := D.2.2.2.2.2.2
  unfold lnOff
  by_cases z0 : fNew T s V p = 0
  · rw [nd_0 z0]
    obtain ⟨m1, e1, q1, J1, s1, l1⟩ := m_new1 (c := c) (j := j) (w := w) (n := n) J g nm (sl := 5 + V 20 1) (by omega) z0
    have c3' : m1 79 3 = nI (V 20 1) := by rw [q1.k (by decide)]; exact c3
    obtain ⟨a1, a2, a3⟩ := m_aft (c := c) (j := j) (w := w) (n := n) J1 (k := 37) (lo := 1) (hi := 9) (by decide) (by decide) (by decide)
    by_cases z1 : fWd T s 15 (nxq T s p) = 0
    · rw [nd_0 z1]
      by_cases z2 : fNm T s 1 9 (nxq T s (nxq T s p)) = 0
      · rw [nd_0 z2]
        obtain ⟨m2, e2, q2, J2⟩ := a1 z1 z2
        have o2 : m2 79 = m1 79 := q2.1 79 (by decide) (by decide)
        refine mo_ok ⟨va_up m2 79 (upd (upd (m2 79) (22 + V 20 1) (nI (whn T s (nxq T s (nxq T s p))))) 3 (nI (V 20 1 + 1))), ?_, (q1.x.tr q2.x).tr (FMx.wr fun y h _ => vup_ne _ _ h), J2.wr fun y h _ => vup_ne _ _ h, ?_⟩
        · unfold X11_officerLine
          rw [I75_13, ob_some, J.2.2.2, if_pos rfl, R75_16, ob_some, show aI _ 79 3 = _ from M79 (i := 3) (by decide), ob_some, c3, show (5 : Int32) + nI (V 20 1) = nI (5 + V 20 1) from N_add 5 _, cVv75, e1, ob_some, R75_16, ob_some, ob_some, show aI _ 79 3 = _ from M79 (i := 3) (by decide), ob_some, c3', cV75, show X11_after 75 37 1 9 _ = _ from e2, bd_eq, show (22 : Int32) + nI (V 20 1) = nI (22 + V 20 1) from N_add 22 _, S79 (by omega), ob_some, I75_13, ob_some, vup_ne _ _ (show (75 : Nat) ≠ 79 by decide), J2.2.2.2, if_pos rfl, R75_16, ob_some, show aI _ 79 3 = _ from M79 (i := 3) (by decide), ob_some, vup_at, upd_ne (by omega), o2, c3', show nI (V 20 1) + 1 = nI (V 20 1 + 1) from N_add _ 1, show sI _ 79 3 _ = _ from S79 (i := 3) (by decide), ob_some, vup_at, vup_up]
        · have A : ∀ a x, a ≠ 20 → gOff (whn T s (nxq T s (nxq T s p))) (stp T s p) (nxq T s p - stp T s p) a = some x → ad V 1 (gOff (whn T s (nxq T s (nxq T s p))) (stp T s p) (nxq T s p - stp T s p)) a (V 20 1) = x := fun a x h1 h2 => ad_at h1 h2
          have b1 : mb 1 = 22 := rfl
          have b2 : mw 1 = 1 := rfl
          refine md_add D g (t := 1) (by decide) hN (gg_Off _ _ _) (fun x h1 h2 h3 => ?_) ?_ (fun q hq => ?_) (fun _ => ?_) (fun z => absurd z (by decide)) (fun _ => ⟨?_, fun k hk => ?_⟩)
          · rw [b1, b2] at h2
            have h3' := h3 (by decide)
            rw [vup_at, upd_ne (by omega), upd_ne (by omega), o2]
            exact q1.2.2 x (by omega) (by omega)
          · rw [vup_at]; exact upd_at
          · have q0 : q = 0 := by omega
            subst q0
            rw [vup_at]
            show upd _ _ _ (22 + 1 * V 20 1 + 0) = _
            rw [show 22 + 1 * V 20 1 + 0 = 22 + V 20 1 by omega, upd_ne (by omega), upd_at]
            exact congrArg nI (A 2 _ (by decide) rfl).symm
          · rw [vup_ne _ _ (by decide), q2.1 81 (by decide) (by decide), q1.1 81 (by decide) (by decide) (by decide)]
          · rw [vup_at, upd_ne (by omega), upd_ne (by omega), o2, A (15 + 1) _ (by decide) rfl, show 83 + 5 * 1 + V 20 1 = 83 + (5 + V 20 1) by omega]; exact s1
          · rw [A (15 + 1) _ (by decide) rfl] at hk
            rw [vup_at, upd_ne (by omega), upd_ne (by omega), o2, A (13 + 1) _ (by decide) rfl, show 92 + 8 * (5 * 1 + V 20 1) + k = 92 + 8 * (5 + V 20 1) + k by omega]; exact l1 k hk
      · rw [nd_1 z2]
        obtain ⟨m2, e2, q2, b2⟩ := a2 z1 z2
        have o2 : m2 79 = m1 79 := q2.1 79 (by decide) (by decide)
        refine mo_no ?_
        unfold X11_officerLine
        rw [I75_13, ob_some, J.2.2.2, if_pos rfl, R75_16, ob_some, show aI _ 79 3 = _ from M79 (i := 3) (by decide), ob_some, c3, show (5 : Int32) + nI (V 20 1) = nI (5 + V 20 1) from N_add 5 _, cVv75, e1, ob_some, R75_16, ob_some, ob_some, show aI _ 79 3 = _ from M79 (i := 3) (by decide), ob_some, c3', cV75, show X11_after 75 37 1 9 _ = _ from e2, bd_eq, show (22 : Int32) + nI (V 20 1) = nI (22 + V 20 1) from N_add 22 _, S79 (by omega), ob_some, I75_13, ob_some, vup_ne _ _ (show (75 : Nat) ≠ 79 by decide), b2.1, if_neg (by decide)]
        exact ⟨_, rfl, (q1.x.tr q2.x).tr (FMx.wr fun y h _ => vup_ne _ _ h), b2.wr (vup_ne _ _ (by decide)), by rw [vup_at, upd_ne (by omega), o2, q1.k (by decide)], by rw [vup_at, upd_ne (by omega), o2, q1.k (by decide)]⟩
    · rw [nd_1 z1]
      obtain ⟨m2, e2, q2, b2⟩ := a3 z1
      have o2 : m2 79 = m1 79 := q2.1 79 (by decide) (by decide)
      refine mo_no ?_
      unfold X11_officerLine
      rw [I75_13, ob_some, J.2.2.2, if_pos rfl, R75_16, ob_some, show aI _ 79 3 = _ from M79 (i := 3) (by decide), ob_some, c3, show (5 : Int32) + nI (V 20 1) = nI (5 + V 20 1) from N_add 5 _, cVv75, e1, ob_some, R75_16, ob_some, ob_some, show aI _ 79 3 = _ from M79 (i := 3) (by decide), ob_some, c3', cV75, show X11_after 75 37 1 9 _ = _ from e2, bd_eq, show (22 : Int32) + nI (V 20 1) = nI (22 + V 20 1) from N_add 22 _, S79 (by omega), ob_some, I75_13, ob_some, vup_ne _ _ (show (75 : Nat) ≠ 79 by decide), b2.1, if_neg (by decide)]
      exact ⟨_, rfl, (q1.x.tr q2.x).tr (FMx.wr fun y h _ => vup_ne _ _ h), b2.wr (vup_ne _ _ (by decide)), by rw [vup_at, upd_ne (by omega), o2, q1.k (by decide)], by rw [vup_at, upd_ne (by omega), o2, q1.k (by decide)]⟩
  · rw [nd_1 z0]
    obtain ⟨m1, e1, q1, b1⟩ := m_new0 (c := c) (j := j) (w := w) (n := n) J g nm (nI (5 + V 20 1)) z0
    have o1 : m1 79 = m 79 := q1.1 79 (by decide) (by decide)
    have c3' : m1 79 3 = nI (V 20 1) := by rw [o1]; exact c3
    refine mo_no ?_
    unfold X11_officerLine
    rw [I75_13, ob_some, J.2.2.2, if_pos rfl, R75_16, ob_some, show aI _ 79 3 = _ from M79 (i := 3) (by decide), ob_some, c3, show (5 : Int32) + nI (V 20 1) = nI (5 + V 20 1) from N_add 5 _, cVv75, e1, ob_some, R75_16, ob_some, ob_some, show aI _ 79 3 = _ from M79 (i := 3) (by decide), ob_some, c3', cV75, mF_aft b1.1, bd_eq, show (22 : Int32) + nI (V 20 1) = nI (22 + V 20 1) from N_add 22 _, S79 (by omega), ob_some, I75_13, ob_some, vup_ne _ _ (show (75 : Nat) ≠ 79 by decide), b1.1, if_neg (by decide)]
    exact ⟨_, rfl, q1.x.tr (FMx.wr fun y h _ => vup_ne _ _ h), b1.wr (vup_ne _ _ (by decide)), by rw [vup_at, upd_ne (by omega), o1], by rw [vup_at, upd_ne (by omega), o1]⟩
theorem m_b84F {a : Nat} (ha : 12 ≤ a) (ha' : a + 1 < 83) (x : Int32) (h : m 75 13 = 1) : X11_boyLine_B84 75 (nI a) x (enc c j w m n) = some (enc c j w (va_up m 79 (upd (upd (m 79) a x) (a + 1) 0)) n) := by
  unfold X11_boyLine_B84
  rw [cVv75, mF_pass h, ob_some, R75_16, ob_some, S79 (by omega), ob_some, R75_16, ob_some, cV75, mF_aft (by rw [vup_ne _ _ (by decide)]; exact h), bd_eq, show nI a + 1 = nI (a + 1) from N_add a 1, S79 (by omega), ob_some, I75_13, ob_some, vup_ne _ _ (show (75 : Nat) ≠ 79 by decide), vup_ne _ _ (show (75 : Nat) ≠ 79 by decide), h, if_neg (by decide), vup_at, vup_up]
theorem ml_boy (J : JT m T s p) (D : MDt m T V) (g : GP T V) (hN : V 20 0 < 5) : MO T s (X11_boyLine 75) c j w m n (lnBoy T s V p) := by
  have c2 : m 79 2 = nI (V 20 0) := k_n D (t := 0) (by decide)
  have nm := D.2.2.2.2.2.2
  unfold lnBoy
  by_cases z0 : fNew T s V p = 0
  · rw [nd_0 z0]
    obtain ⟨m1, e1, q1, J1, s1, l1⟩ := m_new1 (c := c) (j := j) (w := w) (n := n) J g nm (sl := V 20 0) (by omega) z0
    have I : ∀ k, k < 44 → X11_isWord 75 k (enc c j w m1 n) = some (if isW T s k (nxq T s p) then 1 else 0, enc c j w m1 n) := fun k hk => m_isW J1.1.2.1 J1.2.2.1 J1.2.1 J1.2.2.2 hk
    have S : X11_boyLine 75 (enc c j w m n) = X11_boyLine_B70 75 (nI (12 + 2 * V 20 0)) (if (kdx T s (nxq T s p)) < 3 then nI (kdx T s (nxq T s p)) else -1) (enc c j w m1 n) := by
      unfold X11_boyLine
      rw [I75_13, ob_some, J.2.2.2, if_pos rfl, R75_16, ob_some, show aI _ 79 2 = _ from M79 (i := 2) (by decide), ob_some, c2, pin_eq, ob_some, show aI _ 79 2 = _ from M79 (i := 2) (by decide), ob_some, c2, show (12 : Int32) + 2 * nI (V 20 0) = nI (12 + 2 * V 20 0) from IX 12 _, cVv75, e1, ob_some, cV75, I 33 (by decide), show isW T s 33 (nxq T s p) = isW T s 11 (nxq T s p) from rfl, bd_eq]
      unfold kdx
      cases isW T s 11 (nxq T s p) with
      | true => rw [if_neg (by decide)]; rfl
      | false =>
        rw [if_pos (by decide), cV75, I 34 (by decide), show isW T s 34 (nxq T s p) = isW T s 12 (nxq T s p) from rfl, bd_eq]
        cases isW T s 12 (nxq T s p) with
        | true => rw [if_neg (by decide)]; rfl
        | false =>
          rw [if_pos (by decide), cV75, I 35 (by decide), show isW T s 35 (nxq T s p) = isW T s 13 (nxq T s p) from rfl, bd_eq]
          cases isW T s 13 (nxq T s p) with
          | true => rw [if_neg (by decide)]; rfl
          | false => rw [if_pos (by decide)]; rfl
    by_cases z1 : fKd T s (nxq T s p) = 0
    · have hk : (kdx T s (nxq T s p)) < 3 := by
        unfold fKd at z1; split at z1
        · assumption
        · cases z1
      rw [nd_0 z1]
      rw [if_pos hk] at S
      obtain ⟨m2, e2, q2, J2⟩ := m_pass (c := c) (j := j) (w := w) (n := n) J1
      have o2 : m2 79 = m1 79 := q2.1 79 (by decide) (by decide)
      have J3 : JT (va_up m2 79 (upd (m2 79) (12 + 2 * V 20 0) (nI (kdx T s (nxq T s p))))) T s (nxq T s (nxq T s p)) := J2.wr fun y h _ => vup_ne _ _ h
      obtain ⟨a1, a2, a3⟩ := m_aft (c := c) (j := j) (w := w) (n := n) J3 (k := 36) (lo := 0) (hi := 20) (by decide) (by decide) (by decide)
      by_cases z2 : fWd T s 14 (nxq T s (nxq T s p)) = 0
      · rw [nd_0 z2]
        by_cases z3 : fNm T s 0 20 (nxq T s (nxq T s (nxq T s p))) = 0
        · rw [nd_0 z3]
          obtain ⟨m4, e4, q4, J4⟩ := a1 z2 z3
          have o4 : m4 79 = upd (m1 79) (12 + 2 * V 20 0) (nI (kdx T s (nxq T s p))) := by rw [q4.1 79 (by decide) (by decide), vup_at, o2]
          refine mo_ok ⟨va_up m4 79 (upd (upd (m4 79) (12 + 2 * V 20 0 + 1) (nI (whn T s (nxq T s (nxq T s (nxq T s p)))))) 2 (nI (V 20 0 + 1))), ?_, (((q1.x.tr q2.x).tr (FMx.wr fun y h _ => vup_ne _ _ h)).tr q4.x).tr (FMx.wr fun y h _ => vup_ne _ _ h), J4.wr fun y h _ => vup_ne _ _ h, ?_⟩
          · rw [S]
            unfold X11_boyLine_B70 X11_boyLine_B84
            rw [if_pos (by rw [show (0 : Int32) = nI 0 from rfl, N_le (by omega) (by omega)]; omega), cVv75, e2, ob_some, R75_16, ob_some, S79 (by omega), ob_some, R75_16, ob_some, cV75, show X11_after 75 36 0 20 _ = _ from e4, bd_eq, show nI (12 + 2 * V 20 0) + 1 = nI (12 + 2 * V 20 0 + 1) from N_add _ 1, S79 (by omega), ob_some, I75_13, ob_some, vup_ne _ _ (show (75 : Nat) ≠ 79 by decide), J4.2.2.2, if_pos rfl, R75_16, ob_some, show aI _ 79 2 = _ from M79 (i := 2) (by decide), ob_some, vup_at, upd_ne (by omega), o4, upd_ne (by omega), q1.k (by decide), c2, show nI (V 20 0) + 1 = nI (V 20 0 + 1) from N_add _ 1, show sI _ 79 2 _ = _ from S79 (i := 2) (by decide), ob_some, vup_at, vup_up]
          · have A : ∀ a x, a ≠ 20 → gBoy (kdx T s (nxq T s p)) (whn T s (nxq T s (nxq T s (nxq T s p)))) (stp T s p) (nxq T s p - stp T s p) a = some x → ad V 0 (gBoy (kdx T s (nxq T s p)) (whn T s (nxq T s (nxq T s (nxq T s p)))) (stp T s p) (nxq T s p - stp T s p)) a (V 20 0) = x := fun a x h1 h2 => ad_at h1 h2
            have b1 : mb 0 = 12 := rfl
            have b2 : mw 0 = 2 := rfl
            refine md_add D g (t := 0) (by decide) hN (gg_Boy _ _ _ _) (fun x h1 h2 h3 => ?_) ?_ (fun q hq => ?_) (fun _ => ?_) (fun z => absurd z (by decide)) (fun _ => ⟨?_, fun k hk => ?_⟩)
            · rw [b1, b2] at h2
              have h3' := h3 (by decide)
              rw [vup_at, upd_ne (by omega), upd_ne (by omega), o4, upd_ne (by omega)]
              exact q1.2.2 x (by omega) (by omega)
            · rw [vup_at]; exact upd_at
            · rw [vup_at]
              by_cases q0 : q = 0
              · subst q0
                show upd _ _ _ (12 + 2 * V 20 0) = _
                rw [upd_ne (by omega), upd_ne (by omega), o4, upd_at]
                exact congrArg nI (A 0 _ (by decide) rfl).symm
              · have q1' : q = 1 := by omega
                subst q1'
                show upd _ _ _ (12 + 2 * V 20 0 + 1) = _
                rw [upd_ne (by omega), upd_at]
                exact congrArg nI (A 1 _ (by decide) rfl).symm
            · rw [vup_ne _ _ (by decide), q4.1 81 (by decide) (by decide), vup_ne _ _ (by decide), q2.1 81 (by decide) (by decide), q1.1 81 (by decide) (by decide) (by decide)]
            · rw [vup_at, upd_ne (by omega), upd_ne (by omega), o4, upd_ne (by omega), A (15 + 0) _ (by decide) rfl, show 83 + 5 * 0 + V 20 0 = 83 + V 20 0 by omega]; exact s1
            · rw [A (15 + 0) _ (by decide) rfl] at hk
              rw [vup_at, upd_ne (by omega), upd_ne (by omega), o4, upd_ne (by omega), A (13 + 0) _ (by decide) rfl, show 92 + 8 * (5 * 0 + V 20 0) + k = 92 + 8 * V 20 0 + k by omega]; exact l1 k hk
        · rw [nd_1 z3]
          obtain ⟨m4, e4, q4, b4⟩ := a2 z2 z3
          have o4 : m4 79 = upd (m1 79) (12 + 2 * V 20 0) (nI (kdx T s (nxq T s p))) := by rw [q4.1 79 (by decide) (by decide), vup_at, o2]
          refine mo_no ?_
          rw [S]
          unfold X11_boyLine_B70 X11_boyLine_B84
          rw [if_pos (by rw [show (0 : Int32) = nI 0 from rfl, N_le (by omega) (by omega)]; omega), cVv75, e2, ob_some, R75_16, ob_some, S79 (by omega), ob_some, R75_16, ob_some, cV75, show X11_after 75 36 0 20 _ = _ from e4, bd_eq, show nI (12 + 2 * V 20 0) + 1 = nI (12 + 2 * V 20 0 + 1) from N_add _ 1, S79 (by omega), ob_some, I75_13, ob_some, vup_ne _ _ (show (75 : Nat) ≠ 79 by decide), b4.1, if_neg (by decide)]
          exact ⟨_, rfl, (((q1.x.tr q2.x).tr (FMx.wr fun y h _ => vup_ne _ _ h)).tr q4.x).tr (FMx.wr fun y h _ => vup_ne _ _ h), b4.wr (vup_ne _ _ (by decide)), by rw [vup_at, upd_ne (by omega), o4, upd_ne (by omega), q1.k (by decide)], by rw [vup_at, upd_ne (by omega), o4, upd_ne (by omega), q1.k (by decide)]⟩
      · rw [nd_1 z2]
        obtain ⟨m4, e4, q4, b4⟩ := a3 z2
        have o4 : m4 79 = upd (m1 79) (12 + 2 * V 20 0) (nI (kdx T s (nxq T s p))) := by rw [q4.1 79 (by decide) (by decide), vup_at, o2]
        refine mo_no ?_
        rw [S]
        unfold X11_boyLine_B70 X11_boyLine_B84
        rw [if_pos (by rw [show (0 : Int32) = nI 0 from rfl, N_le (by omega) (by omega)]; omega), cVv75, e2, ob_some, R75_16, ob_some, S79 (by omega), ob_some, R75_16, ob_some, cV75, show X11_after 75 36 0 20 _ = _ from e4, bd_eq, show nI (12 + 2 * V 20 0) + 1 = nI (12 + 2 * V 20 0 + 1) from N_add _ 1, S79 (by omega), ob_some, I75_13, ob_some, vup_ne _ _ (show (75 : Nat) ≠ 79 by decide), b4.1, if_neg (by decide)]
        exact ⟨_, rfl, (((q1.x.tr q2.x).tr (FMx.wr fun y h _ => vup_ne _ _ h)).tr q4.x).tr (FMx.wr fun y h _ => vup_ne _ _ h), b4.wr (vup_ne _ _ (by decide)), by rw [vup_at, upd_ne (by omega), o4, upd_ne (by omega), q1.k (by decide)], by rw [vup_at, upd_ne (by omega), o4, upd_ne (by omega), q1.k (by decide)]⟩
    · have hk : ¬ (kdx T s (nxq T s p)) < 3 := fun y => z1 (by unfold fKd; rw [if_pos y])
      have hf : fKd T s (nxq T s p) = 1 := by unfold fKd; rw [if_neg hk]
      rw [nd_1 z1, hf]
      rw [if_neg hk] at S
      obtain ⟨m2, e2, q2, b2⟩ := m_wrong0 (c := c) (j := j) (w := w) (n := n) J1.2.2.2 (f := 1) J1.2.1.1
      have o2 : m2 79 = m1 79 := q2.1 79 (by decide) (by decide)
      refine mo_no ?_
      rw [S]
      unfold X11_boyLine_B70
      rw [if_neg (by decide), I75_4, ob_some, cVv75, show X11_wrong 75 1 _ _ = _ from e2, ob_some, m_b84F (by omega) (by omega) _ b2.1]
      exact ⟨_, rfl, (q1.x.tr q2.x).tr (FMx.wr fun y h _ => vup_ne _ _ h), b2.wr (vup_ne _ _ (by decide)), by rw [vup_at, upd_ne (by omega), upd_ne (by omega), o2, q1.k (by decide)], by rw [vup_at, upd_ne (by omega), upd_ne (by omega), o2, q1.k (by decide)]⟩
  · rw [nd_1 z0]
    obtain ⟨m1, e1, q1, b1⟩ := m_new0 (c := c) (j := j) (w := w) (n := n) J g nm (nI (V 20 0)) z0
    have o1 : m1 79 = m 79 := q1.1 79 (by decide) (by decide)
    refine mo_no ?_
    unfold X11_boyLine X11_boyLine_B70
    rw [I75_13, ob_some, J.2.2.2, if_pos rfl, R75_16, ob_some, show aI _ 79 2 = _ from M79 (i := 2) (by decide), ob_some, c2, pin_eq, ob_some, show aI _ 79 2 = _ from M79 (i := 2) (by decide), ob_some, c2, show (12 : Int32) + 2 * nI (V 20 0) = nI (12 + 2 * V 20 0) from IX 12 _, cVv75, e1, ob_some, cV75, m_isB b1.1, bd_eq, if_pos rfl, cV75, m_isB b1.1, bd_eq, if_pos rfl, cV75, m_isB b1.1, bd_eq, if_pos rfl, if_neg (by decide), I75_4, ob_some, cVv75, m_wrong1 b1.1, ob_some, m_b84F (by omega) (by omega) _ b1.1]
    exact ⟨_, rfl, q1.x.tr (FMx.wr fun y h _ => vup_ne _ _ h), b1.wr (vup_ne _ _ (by decide)), by rw [vup_at, upd_ne (by omega), upd_ne (by omega), o1], by rw [vup_at, upd_ne (by omega), upd_ne (by omega), o1]⟩
end
