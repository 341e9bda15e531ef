/-! the class reads the watch line, the voyage line, any line -/
section
variable {c0 c : Nat → Nat → Int32} {j : Nat → Nat → Int64} {w : Nat → Nat} {m : Nat → Nat → Int32} {n : Nat → Nat → Int64} {T : Nat → Nat} {s p v : Nat} {V : Nat → Nat → Nat} {F : Hp → Option (Int32 × Hp)}
theorem c_course (hp : p ≤ s) (e6 : c 32 6 = nI (srt T s p)) (e8 : j 32 8 = wv T (stp T s p) (nxq T s p - stp T s p)) : X5_courseRead 32 (enc c j w m n) = some (if cox T s p < 4 then nI (cox T s p) else -1, enc c j w m n) := by
  have I : ∀ k, k < 44 → X5_is 32 k (enc c j w m n) = some (if isW T s k p then 1 else 0, enc c j w m n) := fun k hk => c_is hp e6 e8 hk
  unfold X5_courseRead cox
  rw [cV32, I 16 (by decide), bd_eq]
  cases isW T s 16 p with
  | true => rw [if_neg (by decide)]; rfl
  | false =>
    rw [if_pos (by decide), cV32, I 17 (by decide), bd_eq]
    cases isW T s 17 p with
    | true => rw [if_neg (by decide)]; rfl
    | false =>
      rw [if_pos (by decide), cV32, I 18 (by decide), bd_eq]
      cases isW T s 18 p with
      | true => rw [if_neg (by decide)]; rfl
      | false =>
        rw [if_pos (by decide), cV32, I 19 (by decide), bd_eq]
        cases isW T s 19 p with
        | true => rw [if_neg (by decide)]; rfl
        | false => rw [if_pos (by decide)]; rfl
theorem cl_wat (hv : isV v) (hw : w 2 = v) (g : GP T V) (h : JC c0 c j v T s V p) (hN : V 20 2 < 12) : CO c0 v T s (X5_readWatch 32) c j w m n (lnWat T s V p) := by
  have cc := g.cc
  unfold lnWat
  by_cases z0 : fOld T s V 0 p = 0
  · rw [nd_0 z0]
    obtain ⟨c0', j0, e0, h0, x0, s0⟩ := c_old1 (w := w) (m := m) (n := n) hv g h (r := 0) (by decide) z0
    by_cases z1 : fOld T s V 1 (nxq T s p) = 0
    · rw [nd_0 z1]
      obtain ⟨c1, j1, e1, h1, x1, s1⟩ := c_old1 (w := w) (m := m) (n := n) hv g h0 (r := 1) (by decide) z1
      obtain ⟨c2, j2, e2, h2, d6, d7, d9, d8⟩ := c_rd (w := w) (m := m) (n := n) hv h1
      have C := c_course (w := w) (m := m) (n := n) h1.2.2.1 d6 d8
      by_cases z2 : fCo T s (nxq T s (nxq T s p)) = 0
      · have hk : cox T s (nxq T s (nxq T s p)) < 4 := by
          unfold fCo at z2; split at z2
          · assumption
          · cases z2
        rw [nd_0 z2]
        rw [if_pos hk] at C
        by_cases z3 : fWd T s 20 (nxq T s (nxq T s (nxq T s p))) = 0
        · rw [nd_0 z3]
          obtain ⟨c3, j3, e3, h3⟩ := c_wd1 (w := w) (m := m) (n := n) hv h2 (k := 20) (by decide) z3
          by_cases z4 : fNm T s 0 9 (nxq T s (nxq T s (nxq T s (nxq T s p)))) = 0
          · rw [nd_0 z4]
            obtain ⟨c4, j4, e4, h4, x4, s4⟩ := c_nm1 (w := w) (m := m) (n := n) hv h3 (lo := 0) (hi := 9) (by decide) (by decide) z4
            have A : ∀ a x, a ≠ 20 → gWat (fix T s V 0 p) (fix T s V 1 (nxq T s p)) (cox T s (nxq T s (nxq T s p))) (whn T s (nxq T s (nxq T s (nxq T s (nxq T s p))))) a = some x → ad V 2 (gWat (fix T s V 0 p) (fix T s V 1 (nxq T s p)) (cox T s (nxq T s (nxq T s p))) (whn T s (nxq T s (nxq T s (nxq T s (nxq T s p)))))) a (V 20 2) = x := fun a x h1 h2 => ad_at h1 h2
            obtain ⟨ca, ea, ra, fa, va⟩ := c_addRow (c := c4) (j := j4) (w := w) (m := m) (n := n) hv h4.2.2.2.2.2.1 (t := 2) (by decide) hN (gg_Wat _ _ _ _) (x0 := nI (fix T s V 0 p)) (x1 := nI (fix T s V 1 (nxq T s p))) (x2 := nI (cox T s (nxq T s (nxq T s p)))) (x3 := nI (whn T s (nxq T s (nxq T s (nxq T s (nxq T s p)))))) (congrArg nI (A 11 _ (by decide) rfl).symm) (fun _ => congrArg nI (A 3 _ (by decide) rfl).symm) (fun _ => congrArg nI (A 12 _ (by decide) rfl).symm) (fun _ => congrArg nI (A 4 _ (by decide) rfl).symm)
            refine co_ok ⟨ca, _, ?_, h4.add hv (by decide) ra fa va (j' := j4) ?_⟩
            · unfold X5_readWatch
              rw [F32_r1, ob_some, F32_r3, ob_some, hw, V_0 hv, ob_some, r_cB hv h.2.2.2.2.2.1, ob_some, cV32, show X5_nextNameOf 32 33 (nI (V 20 0)) _ = _ from e0, bd_eq, if_neg (by decide), F32_10, ob_some, x0, F32_r2, ob_some, F32_r3, ob_some, hw, V_1 hv, ob_some, r_cO hv h0.2.2.2.2.2.1, ob_some, cV32, show X5_nextNameOf 32 34 (nI (V 20 1)) _ = _ from e1, bd_eq, if_neg (by decide), F32_10, ob_some, x1, cVv32, e2, ob_some, cV32, C, bd_eq, if_neg (n_neg1 (by omega)), cV32, e3, bd_eq, if_neg (by decide), cV32, show X5_nextWhole 32 0 9 _ = _ from e4, bd_eq, if_neg (by decide), F32_r3, ob_some, hw, V_2 hv, ob_some, F32_9, ob_some, x4, cVv_eq (T_is (V_wats hv)), show X8_add (v + 5) _ _ _ _ _ = _ from ea, ob_some, rZ_1]
            · exact nm_ot (gg_Wat _ _ _ _) (by decide) (by decide) h4.2.2.2.2.2.2.2
          · rw [nd_1 z4]
            obtain ⟨c4, j4, e4, b4⟩ := c_nm0 (w := w) (m := m) (n := n) hv h3 (lo := 0) (hi := 9) z4
            refine co_no ⟨c4, j4, ?_, b4⟩
            unfold X5_readWatch
            rw [F32_r1, ob_some, F32_r3, ob_some, hw, V_0 hv, ob_some, r_cB hv h.2.2.2.2.2.1, ob_some, cV32, show X5_nextNameOf 32 33 (nI (V 20 0)) _ = _ from e0, bd_eq, if_neg (by decide), F32_10, ob_some, x0, F32_r2, ob_some, F32_r3, ob_some, hw, V_1 hv, ob_some, r_cO hv h0.2.2.2.2.2.1, ob_some, cV32, show X5_nextNameOf 32 34 (nI (V 20 1)) _ = _ from e1, bd_eq, if_neg (by decide), F32_10, ob_some, x1, cVv32, e2, ob_some, cV32, C, bd_eq, if_neg (n_neg1 (by omega)), cV32, e3, bd_eq, if_neg (by decide), cV32, show X5_nextWhole 32 0 9 _ = _ from e4, bd_eq, if_pos rfl, rZ_0]
        · rw [nd_1 z3]
          obtain ⟨c3, j3, e3, b3⟩ := c_wd0 (w := w) (m := m) (n := n) hv h2 (k := 20) (by decide) z3
          refine co_no ⟨c3, j3, ?_, b3⟩
          unfold X5_readWatch
          rw [F32_r1, ob_some, F32_r3, ob_some, hw, V_0 hv, ob_some, r_cB hv h.2.2.2.2.2.1, ob_some, cV32, show X5_nextNameOf 32 33 (nI (V 20 0)) _ = _ from e0, bd_eq, if_neg (by decide), F32_10, ob_some, x0, F32_r2, ob_some, F32_r3, ob_some, hw, V_1 hv, ob_some, r_cO hv h0.2.2.2.2.2.1, ob_some, cV32, show X5_nextNameOf 32 34 (nI (V 20 1)) _ = _ from e1, bd_eq, if_neg (by decide), F32_10, ob_some, x1, cVv32, e2, ob_some, cV32, C, bd_eq, if_neg (n_neg1 (by omega)), cV32, e3, bd_eq, if_pos rfl, rZ_0]
      · have hk : ¬ cox T s (nxq T s (nxq T s p)) < 4 := fun y => z2 (by unfold fCo; rw [if_pos y])
        have hf : fCo T s (nxq T s (nxq T s p)) = 1 := by unfold fCo; rw [if_neg hk]
        rw [nd_1 z2]
        rw [if_neg hk] at C
        obtain ⟨c3, e3, b3⟩ := c_fail (w := w) (m := m) (n := n) (f := 1) hv h2 d7
        refine co_no ⟨c3, j2, ?_, by rw [hf]; exact b3⟩
        unfold X5_readWatch
        rw [F32_r1, ob_some, F32_r3, ob_some, hw, V_0 hv, ob_some, r_cB hv h.2.2.2.2.2.1, ob_some, cV32, show X5_nextNameOf 32 33 (nI (V 20 0)) _ = _ from e0, bd_eq, if_neg (by decide), F32_10, ob_some, x0, F32_r2, ob_some, F32_r3, ob_some, hw, V_1 hv, ob_some, r_cO hv h0.2.2.2.2.2.1, ob_some, cV32, show X5_nextNameOf 32 34 (nI (V 20 1)) _ = _ from e1, bd_eq, if_neg (by decide), F32_10, ob_some, x1, cVv32, e2, ob_some, cV32, C, bd_eq, if_pos rfl, cV32, show X5_fail 32 1 _ = _ from e3, bd_eq, rZ_0]
    · rw [nd_1 z1]
      obtain ⟨c1, j1, e1, b1⟩ := c_old0 (w := w) (m := m) (n := n) hv g h0 (r := 1) (by decide) z1
      refine co_no ⟨c1, j1, ?_, b1⟩
      unfold X5_readWatch
      rw [F32_r1, ob_some, F32_r3, ob_some, hw, V_0 hv, ob_some, r_cB hv h.2.2.2.2.2.1, ob_some, cV32, show X5_nextNameOf 32 33 (nI (V 20 0)) _ = _ from e0, bd_eq, if_neg (by decide), F32_10, ob_some, x0, F32_r2, ob_some, F32_r3, ob_some, hw, V_1 hv, ob_some, r_cO hv h0.2.2.2.2.2.1, ob_some, cV32, show X5_nextNameOf 32 34 (nI (V 20 1)) _ = _ from e1, bd_eq, if_pos rfl, rZ_0]
  · rw [nd_1 z0]
    obtain ⟨c0', j0, e0, b0⟩ := c_old0 (w := w) (m := m) (n := n) hv g h (r := 0) (by decide) z0
    refine co_no ⟨c0', j0, ?_, b0⟩
    unfold X5_readWatch
    rw [F32_r1, ob_some, F32_r3, ob_some, hw, V_0 hv, ob_some, r_cB hv h.2.2.2.2.2.1, ob_some, cV32, show X5_nextNameOf 32 33 (nI (V 20 0)) _ = _ from e0, bd_eq, if_pos rfl, rZ_0]
theorem cl_voy (hv : isV v) (hw : w 2 = v) (h : JC c0 c j v T s V p) : CO c0 v T s (X5_readVoyage 32) c j w m n (lnVoy T s V p) := by
  unfold lnVoy
  have hs : JC c0 (va_up c v (upd (c v) 7 1)) j v T s (VV11 V) p := h.sf hv
  by_cases z0 : fWd T s 1 p = 0
  · rw [nd_0 z0]
    obtain ⟨c0, j0, e0, h0⟩ := c_wd1 (w := w) (m := m) (n := n) hv hs (k := 1) (by decide) z0
    by_cases z1 : fNm T s 0 199 (nxq T s p) = 0
    · rw [nd_0 z1]
      obtain ⟨c1, j1, e1, h1, x1, s1⟩ := c_nm1 (w := w) (m := m) (n := n) hv h0 (lo := 0) (hi := 199) (by decide) (by decide) z1
      have g1 := h1.sv (k := 7) (x := whn T s (nxq T s p)) hv (by decide) (by decide)
      by_cases z2 : fNm T s 0 199 (nxq T s (nxq T s p)) = 0
      · rw [nd_0 z2]
        obtain ⟨c2, j2, e2, h2, x2, s2⟩ := c_nm1 (w := w) (m := m) (n := n) hv g1 (lo := 0) (hi := 199) (by decide) (by decide) z2
        have g2 := h2.sv (k := 8) (x := whn T s (nxq T s (nxq T s p))) hv (by decide) (by decide)
        by_cases z3 : fWd T s 2 (nxq T s (nxq T s (nxq T s p))) = 0
        · rw [nd_0 z3]
          obtain ⟨c3, j3, e3, h3⟩ := c_wd1 (w := w) (m := m) (n := n) hv g2 (k := 2) (by decide) z3
          by_cases z4 : fNm T s 0 100 (nxq T s (nxq T s (nxq T s (nxq T s p)))) = 0
          · rw [nd_0 z4]
            obtain ⟨c4, j4, e4, h4, x4, s4⟩ := c_nm1 (w := w) (m := m) (n := n) hv h3 (lo := 0) (hi := 100) (by decide) (by decide) z4
            have g4 := h4.sv (k := 9) (x := whn T s (nxq T s (nxq T s (nxq T s (nxq T s p))))) hv (by decide) (by decide)
            by_cases z5 : fWd T s 3 (nxq T s (nxq T s (nxq T s (nxq T s (nxq T s p))))) = 0
            · rw [nd_0 z5]
              obtain ⟨c5, j5, e5, h5⟩ := c_wd1 (w := w) (m := m) (n := n) hv g4 (k := 3) (by decide) z5
              by_cases z6 : fNm T s 0 100 (nxq T s (nxq T s (nxq T s (nxq T s (nxq T s (nxq T s p)))))) = 0
              · rw [nd_0 z6]
                obtain ⟨c6, j6, e6, h6, x6, s6⟩ := c_nm1 (w := w) (m := m) (n := n) hv h5 (lo := 0) (hi := 100) (by decide) (by decide) z6
                have g6 := h6.sv (k := 10) (x := whn T s (nxq T s (nxq T s (nxq T s (nxq T s (nxq T s (nxq T s p))))))) hv (by decide) (by decide)
                refine co_ok ⟨_, j6, ?_, g6⟩
                unfold X5_readVoyage
                rw [F32_r3, ob_some, hw, pZ_1, V_p hv (f := 7) (by decide) (by decide), ob_some, cV32, e0, bd_eq, if_neg (by decide), cV32, show X5_nextWhole 32 0 199 _ = _ from e1, bd_eq, if_neg (by decide), F32_r3, ob_some, hw, F32_9, ob_some, x1, V_p hv (f := 8) (by decide) (by decide), ob_some, cV32, show X5_nextWhole 32 0 199 _ = _ from e2, bd_eq, if_neg (by decide), F32_r3, ob_some, hw, F32_9, ob_some, x2, V_p hv (f := 9) (by decide) (by decide), ob_some, cV32, e3, bd_eq, if_neg (by decide), cV32, show X5_nextWhole 32 0 100 _ = _ from e4, bd_eq, if_neg (by decide), F32_r3, ob_some, hw, F32_9, ob_some, x4, V_p hv (f := 10) (by decide) (by decide), ob_some, cV32, e5, bd_eq, if_neg (by decide), cV32, show X5_nextWhole 32 0 100 _ = _ from e6, bd_eq, if_neg (by decide), F32_r3, ob_some, hw, F32_9, ob_some, x6, V_p hv (f := 11) (by decide) (by decide), ob_some, rZ_1]
              · rw [nd_1 z6]
                obtain ⟨c6, j6, e6, b6⟩ := c_nm0 (w := w) (m := m) (n := n) hv h5 (lo := 0) (hi := 100) z6
                refine co_no ⟨c6, j6, ?_, b6⟩
                unfold X5_readVoyage
                rw [F32_r3, ob_some, hw, pZ_1, V_p hv (f := 7) (by decide) (by decide), ob_some, cV32, e0, bd_eq, if_neg (by decide), cV32, show X5_nextWhole 32 0 199 _ = _ from e1, bd_eq, if_neg (by decide), F32_r3, ob_some, hw, F32_9, ob_some, x1, V_p hv (f := 8) (by decide) (by decide), ob_some, cV32, show X5_nextWhole 32 0 199 _ = _ from e2, bd_eq, if_neg (by decide), F32_r3, ob_some, hw, F32_9, ob_some, x2, V_p hv (f := 9) (by decide) (by decide), ob_some, cV32, e3, bd_eq, if_neg (by decide), cV32, show X5_nextWhole 32 0 100 _ = _ from e4, bd_eq, if_neg (by decide), F32_r3, ob_some, hw, F32_9, ob_some, x4, V_p hv (f := 10) (by decide) (by decide), ob_some, cV32, e5, bd_eq, if_neg (by decide), cV32, show X5_nextWhole 32 0 100 _ = _ from e6, bd_eq, if_pos rfl, rZ_0]
            · rw [nd_1 z5]
              obtain ⟨c5, j5, e5, b5⟩ := c_wd0 (w := w) (m := m) (n := n) hv g4 (k := 3) (by decide) z5
              refine co_no ⟨c5, j5, ?_, b5⟩
              unfold X5_readVoyage
              rw [F32_r3, ob_some, hw, pZ_1, V_p hv (f := 7) (by decide) (by decide), ob_some, cV32, e0, bd_eq, if_neg (by decide), cV32, show X5_nextWhole 32 0 199 _ = _ from e1, bd_eq, if_neg (by decide), F32_r3, ob_some, hw, F32_9, ob_some, x1, V_p hv (f := 8) (by decide) (by decide), ob_some, cV32, show X5_nextWhole 32 0 199 _ = _ from e2, bd_eq, if_neg (by decide), F32_r3, ob_some, hw, F32_9, ob_some, x2, V_p hv (f := 9) (by decide) (by decide), ob_some, cV32, e3, bd_eq, if_neg (by decide), cV32, show X5_nextWhole 32 0 100 _ = _ from e4, bd_eq, if_neg (by decide), F32_r3, ob_some, hw, F32_9, ob_some, x4, V_p hv (f := 10) (by decide) (by decide), ob_some, cV32, e5, bd_eq, if_pos rfl, rZ_0]
          · rw [nd_1 z4]
            obtain ⟨c4, j4, e4, b4⟩ := c_nm0 (w := w) (m := m) (n := n) hv h3 (lo := 0) (hi := 100) z4
            refine co_no ⟨c4, j4, ?_, b4⟩
            unfold X5_readVoyage
            rw [F32_r3, ob_some, hw, pZ_1, V_p hv (f := 7) (by decide) (by decide), ob_some, cV32, e0, bd_eq, if_neg (by decide), cV32, show X5_nextWhole 32 0 199 _ = _ from e1, bd_eq, if_neg (by decide), F32_r3, ob_some, hw, F32_9, ob_some, x1, V_p hv (f := 8) (by decide) (by decide), ob_some, cV32, show X5_nextWhole 32 0 199 _ = _ from e2, bd_eq, if_neg (by decide), F32_r3, ob_some, hw, F32_9, ob_some, x2, V_p hv (f := 9) (by decide) (by decide), ob_some, cV32, e3, bd_eq, if_neg (by decide), cV32, show X5_nextWhole 32 0 100 _ = _ from e4, bd_eq, if_pos rfl, rZ_0]
        · rw [nd_1 z3]
          obtain ⟨c3, j3, e3, b3⟩ := c_wd0 (w := w) (m := m) (n := n) hv g2 (k := 2) (by decide) z3
          refine co_no ⟨c3, j3, ?_, b3⟩
          unfold X5_readVoyage
          rw [F32_r3, ob_some, hw, pZ_1, V_p hv (f := 7) (by decide) (by decide), ob_some, cV32, e0, bd_eq, if_neg (by decide), cV32, show X5_nextWhole 32 0 199 _ = _ from e1, bd_eq, if_neg (by decide), F32_r3, ob_some, hw, F32_9, ob_some, x1, V_p hv (f := 8) (by decide) (by decide), ob_some, cV32, show X5_nextWhole 32 0 199 _ = _ from e2, bd_eq, if_neg (by decide), F32_r3, ob_some, hw, F32_9, ob_some, x2, V_p hv (f := 9) (by decide) (by decide), ob_some, cV32, e3, bd_eq, if_pos rfl, rZ_0]
      · rw [nd_1 z2]
        obtain ⟨c2, j2, e2, b2⟩ := c_nm0 (w := w) (m := m) (n := n) hv g1 (lo := 0) (hi := 199) z2
        refine co_no ⟨c2, j2, ?_, b2⟩
        unfold X5_readVoyage
        rw [F32_r3, ob_some, hw, pZ_1, V_p hv (f := 7) (by decide) (by decide), ob_some, cV32, e0, bd_eq, if_neg (by decide), cV32, show X5_nextWhole 32 0 199 _ = _ from e1, bd_eq, if_neg (by decide), F32_r3, ob_some, hw, F32_9, ob_some, x1, V_p hv (f := 8) (by decide) (by decide), ob_some, cV32, show X5_nextWhole 32 0 199 _ = _ from e2, bd_eq, if_pos rfl, rZ_0]
    · rw [nd_1 z1]
      obtain ⟨c1, j1, e1, b1⟩ := c_nm0 (w := w) (m := m) (n := n) hv h0 (lo := 0) (hi := 199) z1
      refine co_no ⟨c1, j1, ?_, b1⟩
      unfold X5_readVoyage
      rw [F32_r3, ob_some, hw, pZ_1, V_p hv (f := 7) (by decide) (by decide), ob_some, cV32, e0, bd_eq, if_neg (by decide), cV32, show X5_nextWhole 32 0 199 _ = _ from e1, bd_eq, if_pos rfl, rZ_0]
  · rw [nd_1 z0]
    obtain ⟨c0, j0, e0, b0⟩ := c_wd0 (w := w) (m := m) (n := n) hv hs (k := 1) (by decide) z0
    refine co_no ⟨c0, j0, ?_, b0⟩
    unfold X5_readVoyage
    rw [F32_r3, ob_some, hw, pZ_1, V_p hv (f := 7) (by decide) (by decide), ob_some, cV32, e0, bd_eq, if_pos rfl, rZ_0]
end
