/-! the class reads the lines -/
theorem sv_at {V : Nat → Nat → Nat} {k x : Nat} : sv V k x 20 k = x := by unfold sv; rw [if_pos ⟨rfl, rfl⟩]
theorem sv_ne {V : Nat → Nat → Nat} {k x i : Nat} (h : i ≠ k) : sv V k x 20 i = V 20 i := by unfold sv; rw [if_neg fun z => h z.2]
theorem sv_o {V : Nat → Nat → Nat} {k x r i : Nat} (h : r ≠ 20) : sv V k x r i = V r i := by unfold sv; rw [if_neg fun z => h z.1]
theorem sv_col {V : Nat → Nat → Nat} {k x t q i : Nat} : colV (sv V k x) t q i = colV V t q i := by
  unfold colV
  repeat' split
  all_goals first | exact sv_o (by decide) | rw [sv_o (by decide)]
theorem lk_c (e : Nat) (h1 : 1 ≤ e) (h2 : e ≤ 9) (h : Hp) : X5_looksEvery (nI e) h = some (nI (lkM e), h) := by
  match e, h1, h2 with
  | 1, _, _ => rfl
  | 2, _, _ => rfl
  | 3, _, _ => rfl
  | 4, _, _ => rfl
  | 5, _, _ => rfl
  | 6, _, _ => rfl
  | 7, _, _ => rfl
  | 8, _, _ => rfl
  | 9, _, _ => rfl
theorem sq_c (x y : Nat) (h : Hp) : X7_squareNumber (nI x) (nI y) h = some (nI (sqx x y), h) := by
  unfold X7_squareNumber sqx
  rw [show (1000 : Int32) = nI 1000 from rfl, show (300 : Int32) = nI 300 from rfl, N_add, N_mul, N_add, N_add]
section
variable {c0 c : Nat → Nat → Int32} {j : Nat → Nat → Int64} {w : Nat → Nat} {m : Nat → Nat → Int32} {n : Nat → Nat → Int64} {T : Nat → Nat} {s p v : Nat} {V : Nat → Nat → Nat} {F : Hp → Option (Int32 × Hp)}
theorem c_keep {a len N : Nat} {x : Int64} (ha : sk a = .inl (2, len)) (h1 : a < 75) (hN : N < len) (hl : len < 100) : X5_keepName a (nI N) x (enc c j w m n) = some (enc c (va_up j a (vp_updL (j a) N x)) w m n) := by
  unfold X5_keepName
  rw [if_neg (by rw [N_lt0 (by omega)]; exact id), aN_J ha, ob_some, if_neg (by rw [N_le (by omega) (by omega)]; omega), sJ_c ha h1, N_tn (by omega), if_neg (fun z => z.elim (fun q => by rw [N_lt0 (by omega)] at q; exact q) (fun q => by omega)), ob_some]
theorem du_c (hv : isV v) (h : RV2 c v V) (g : GP T V) {t x : Nat} (ht : t < 7) (hx : x < 2147483648) (hb : ∀ i, i < V 20 t → colV V t 0 i < 2147483648) : X8_holds (v + 1 + 2 * t) 0 (nI x) (enc c j w m n) = some (if (∃ i, i < V 20 t ∧ colV V t 0 i = x) then 1 else 0, enc c j w m n) := by
  obtain ⟨l1, l2, l3⟩ := cap_le t ht
  rw [show X8_holds (v + 1 + 2 * t) 0 (nI x) (enc c j w m n) = _ from T_holds (q := 0) (V_T hv ht) (h.1 t ht) (g.1 t ht) l2]
  have E : (∃ i, i < V 20 t ∧ c (v + 2 + 2 * t) (i * wdt t + 0) = nI x) ↔ ∃ i, i < V 20 t ∧ colV V t 0 i = x := by
    constructor
    · rintro ⟨i, hi, e⟩
      rw [h.2.2 t ht i hi 0 l2, N_inj (hb i hi) hx] at e
      exact ⟨i, hi, e⟩
    · rintro ⟨i, hi, e⟩
      exact ⟨i, hi, by rw [h.2.2 t ht i hi 0 l2, e]⟩
  by_cases z : ∃ i, i < V 20 t ∧ colV V t 0 i = x
  · rw [if_pos (E.mpr z), if_pos z]
  · rw [if_neg (fun y => z (E.mp y)), if_neg z]
theorem cl_boy (hv : isV v) (hw : w 2 = v) (g : GP T V) (h : JC c0 c j v T s V p) (hN : V 20 0 < 5) : CO c0 v T s (X5_readBoy 32) c j w m n (lnBoy T s V p) := by
  unfold lnBoy
  by_cases z1 : fNew T s V p = 0
  · rw [nd_0 z1]
    obtain ⟨c1, j1, e1, h1, d1⟩ := c_new1 (w := w) (m := m) (n := n) hv hw g h z1
    obtain ⟨c2, j2, e2, h2, d6, d7, d9, d8⟩ := c_rd (w := w) (m := m) (n := n) hv h1
    have I : ∀ k, k < 44 → X5_is 32 k (enc c2 j2 w m n) = some (if isW T s k (nxq T s p) then 1 else 0, enc c2 j2 w m n) := fun k hk => c_is h1.2.2.1 d6 d8 hk
    have S : X5_readBoy 32 (enc c j w m n) = X5_readBoy_B58 32 (wv T (stp T s p) (nxq T s p - stp T s p)) (if kdx T s (nxq T s p) < 3 then nI (kdx T s (nxq T s p)) else -1) (enc c2 j2 w m n) := by
      unfold X5_readBoy
      rw [cV32, e1, bd_eq, if_neg (by decide), F32_j8, ob_some, d1, cVv32, e2, ob_some, cV32, I 11 (by decide), bd_eq]
      unfold kdx
      cases isW T s 11 (nxq T s p) with
      | true => rw [if_neg (by decide)]; rfl
      | false =>
        rw [if_pos (by decide), cV32, I 12 (by decide), bd_eq]
        cases isW T s 12 (nxq T s p) with
        | true => rw [if_neg (by decide)]; rfl
        | false =>
          rw [if_pos (by decide), cV32, I 13 (by decide), bd_eq]
          cases isW T s 13 (nxq T s p) with
          | true => rw [if_neg (by decide)]; rfl
          | false => rw [if_pos (by decide)]; rfl
    by_cases z2 : fKd T s (nxq T s p) = 0
    · have hk : kdx T s (nxq T s p) < 3 := by
        unfold fKd at z2; split at z2
        · assumption
        · cases z2
      rw [nd_0 z2]
      rw [if_pos hk] at S
      by_cases z3 : fWd T s 14 (nxq T s (nxq T s p)) = 0
      · rw [nd_0 z3]
        obtain ⟨c3, j3, e3, h3⟩ := c_wd1 (w := w) (m := m) (n := n) hv h2 (by decide) z3
        by_cases z4 : fNm T s 0 20 (nxq T s (nxq T s (nxq T s p))) = 0
        · rw [nd_0 z4]
          obtain ⟨c4, j4, e4, h4, x4, -⟩ := c_nm1 (w := w) (m := m) (n := n) hv h3 (by decide) (by decide) z4
          have A : ∀ a x, a ≠ 20 → gBoy (kdx T s (nxq T s p)) (whn T s (nxq T s (nxq T s (nxq T s p)))) (stp T s p) (nxq T s p - stp T s p) a = some x → ad V 0 (gBoy (kdx T s (nxq T s p)) (whn T s (nxq T s (nxq T s (nxq T s p)))) (stp T s p) (nxq T s p - stp T s p)) a (V 20 0) = x := fun a x h1 h2 => ad_at h1 h2
          obtain ⟨c5, e5, r5, f5, v5⟩ := c_addRow (c := c4) (j := va_up j4 33 (vp_updL (j4 33) (V 20 0) (wv T (stp T s p) (nxq T s p - stp T s p)))) (w := w) (m := m) (n := n) hv h4.2.2.2.2.2.1 (t := 0) (by decide) hN (gg_Boy (kdx T s (nxq T s p)) (whn T s (nxq T s (nxq T s (nxq T s p)))) (stp T s p) (nxq T s p - stp T s p)) (x2 := 0) (x3 := 0) (congrArg nI (A 0 _ (by decide) rfl).symm) (fun _ => congrArg nI (A 1 _ (by decide) rfl).symm) (fun q => absurd q (by decide)) (fun q => absurd q (by decide))
          refine co_ok ⟨c5, _, ?_, h4.add hv (by decide) r5 f5 v5 (j' := va_up j4 33 (vp_updL (j4 33) (V 20 0) (wv T (stp T s p) (nxq T s p - stp T s p)))) ?_⟩
          · rw [S]; unfold X5_readBoy_B58
            rw [if_neg (n_neg1 (by omega)), cV32, e3, bd_eq, if_neg (by decide), cV32, show X5_nextWhole 32 0 20 _ = _ from e4, bd_eq, if_neg (by decide), F32_r1, ob_some, F32_r3, ob_some, hw, V_0 hv, ob_some, r_cB hv h4.2.2.2.2.2.1, ob_some, c_keep (len := 5) rfl (by decide) hN (by decide), ob_some, F32_r3, ob_some, hw, V_0 hv, ob_some, F32_9, ob_some, x4, cVv_eq (T_is (V_boys hv)), show X8_add (v + 1) _ _ 0 0 _ = _ from e5, ob_some, rZ_1]
          · intro r hr i hi
            match r, hr with
            | 0, _ =>
              rw [ad_c] at hi
              show va_up j4 33 _ 33 i = _
              rw [vup_at]
              by_cases y : i = V 20 0
              · subst y
                rw [updL_at, A (13 + 0) _ (by decide) rfl, A (15 + 0) _ (by decide) rfl]
              · rw [updL_ne y, ad_lt (by decide) y, ad_lt (by decide) y]
                exact h4.2.2.2.2.2.2.2 0 (by decide) i (by omega)
            | 1, _ =>
              rw [ad_o (by decide)] at hi
              rw [vup_ne _ _ (by decide), ad_ot (gg_Boy _ _ _ _) (by decide) rfl, ad_ot (gg_Boy _ _ _ _) (by decide) rfl]
              exact h4.2.2.2.2.2.2.2 1 (by decide) i hi
        · rw [nd_1 z4]
          obtain ⟨c4, j4, e4, b4⟩ := c_nm0 (w := w) (m := m) (n := n) hv h3 z4
          refine co_no ⟨c4, j4, ?_, b4⟩
          rw [S]; unfold X5_readBoy_B58
          rw [if_neg (n_neg1 (by omega)), cV32, e3, bd_eq, if_neg (by decide), cV32, show X5_nextWhole 32 0 20 _ = _ from e4, bd_eq, if_pos rfl, rZ_0]
      · rw [nd_1 z3]
        obtain ⟨c3, j3, e3, b3⟩ := c_wd0 (w := w) (m := m) (n := n) hv h2 (by decide) z3
        refine co_no ⟨c3, j3, ?_, b3⟩
        rw [S]; unfold X5_readBoy_B58
        rw [if_neg (n_neg1 (by omega)), cV32, e3, bd_eq, if_pos rfl, rZ_0]
    · have hk : ¬ kdx T s (nxq T s p) < 3 := fun y => z2 (by unfold fKd; rw [if_pos y])
      have hf : fKd T s (nxq T s p) = 1 := by unfold fKd; rw [if_neg hk]
      rw [nd_1 z2]
      obtain ⟨c3, e3, b3⟩ := c_fail (w := w) (m := m) (n := n) (f := 1) hv h2 d7
      refine co_no ⟨c3, j2, ?_, by rw [hf]; exact b3⟩
      rw [S, if_neg hk]; unfold X5_readBoy_B58
      rw [if_pos rfl, cV32, show (1 : Int32) = nI 1 from rfl, e3, bd_eq, rZ_0]
  · rw [nd_1 z1]
    obtain ⟨c1, j1, e1, b1⟩ := c_new0 (w := w) (m := m) (n := n) hv hw g h z1
    refine co_no ⟨c1, j1, ?_, b1⟩
    unfold X5_readBoy
    rw [cV32, e1, bd_eq, if_pos rfl, rZ_0]
def VV11 (V : Nat → Nat → Nat) : Nat → Nat → Nat := sv V 11 1
theorem du0 {r N x : Nat} (z : fDu V r N x = 0) : ¬ ∃ i, i < N ∧ V r i = x := fun y => by unfold fDu at z; rw [if_pos y] at z; cases z
theorem du1 {r N x : Nat} (z : fDu V r N x ≠ 0) : (∃ i, i < N ∧ V r i = x) ∧ fDu V r N x = 3 := by
  by_cases y : ∃ i, i < N ∧ V r i = x
  · exact ⟨y, by unfold fDu; rw [if_pos y]⟩
  · exact absurd (by unfold fDu; rw [if_neg y]) z
theorem JC.sv {k x : Nat} (hv : isV v) (h : JC c0 c j v T s V p) (h1 : 7 ≤ k) (h2 : k < 11) : JC c0 (va_up c v (upd (c v) (k + 1) (nI x))) j v T s (sv V k x) p := by
  obtain ⟨a1, a2, a3, a4, a5, a6, a7, a8⟩ := h
  have hv' : v = 2 ∨ v = 17 := hv
  refine ⟨⟨a1.1, a1.2.1, by rw [vup_ne _ _ (by omega)]; exact a1.2.2.1, fun i hi => by rw [vup_ne _ _ (by omega)]; exact a1.2.2.2 i hi⟩, by rw [vup_ne _ _ (by omega)]; exact a2, a3, by rw [vup_ne _ _ (by omega)]; exact a4, fun y a b => by rw [vup_ne _ _ (by omega)]; exact a5 y a b, ⟨fun t ht => ?_, fun f hf => ?_, fun t ht i hi q hq => ?_⟩, ?_, fun r hr i hi => ?_⟩
  · rw [vup_ne _ _ (by omega), sv_ne (by omega)]; exact a6.1 t ht
  · rw [vup_at]
    by_cases y : 7 + f = k
    · rw [y, sv_at, show 8 + f = k + 1 by omega, upd_at]
    · rw [sv_ne y, upd_ne (by omega)]; exact a6.2.1 f hf
  · rw [sv_ne (by omega)] at hi
    rw [vup_ne _ _ (by omega), sv_col]; exact a6.2.2 t ht i hi q hq
  · rw [vup_at, upd_ne (by omega), sv_ne (by omega)]; exact a7
  · rw [sv_ne (by omega)] at hi
    rw [sv_o (by omega), sv_o (by omega)]; exact a8 r hr i hi
theorem JC.sf (hv : isV v) (h : JC c0 c j v T s V p) : JC c0 (va_up c v (upd (c v) 7 1)) j v T s (VV11 V) p := by
  obtain ⟨a1, a2, a3, a4, a5, a6, a7, a8⟩ := h
  have hv' : v = 2 ∨ v = 17 := hv
  unfold VV11
  refine ⟨⟨a1.1, a1.2.1, by rw [vup_ne _ _ (by omega)]; exact a1.2.2.1, fun i hi => by rw [vup_ne _ _ (by omega)]; exact a1.2.2.2 i hi⟩, by rw [vup_ne _ _ (by omega)]; exact a2, a3, by rw [vup_ne _ _ (by omega)]; exact a4, fun y a b => by rw [vup_ne _ _ (by omega)]; exact a5 y a b, ⟨fun t ht => ?_, fun f hf => ?_, fun t ht i hi q hq => ?_⟩, ?_, fun r hr i hi => ?_⟩
  · rw [vup_ne _ _ (by omega), sv_ne (by omega)]; exact a6.1 t ht
  · rw [vup_at, sv_ne (by omega), upd_ne (by omega)]; exact a6.2.1 f hf
  · rw [sv_ne (by omega)] at hi
    rw [vup_ne _ _ (by omega), sv_col]; exact a6.2.2 t ht i hi q hq
  · rw [vup_at, upd_at, sv_at]; rfl
  · rw [sv_ne (by omega)] at hi
    rw [sv_o (by omega), sv_o (by omega)]; exact a8 r hr i hi
theorem cl_off (hv : isV v) (hw : w 2 = v) (g : GP T V) (h : JC c0 c j v T s V p) (hN : V 20 1 < 4) : CO c0 v T s (X5_readOfficer 32) c j w m n (lnOff T s V p) := by
  have cc := g.cc
  unfold lnOff
  by_cases z0 : fNew T s V p = 0
  · rw [nd_0 z0]
    obtain ⟨c0, j0, e0, h0, x0⟩ := c_new1 (w := w) (m := m) (n := n) hv hw g h z0
    by_cases z1 : fWd T s 15 (nxq T s p) = 0
    · rw [nd_0 z1]
      obtain ⟨c1, j1, e1, h1⟩ := c_wd1 (w := w) (m := m) (n := n) hv h0 (k := 15) (by decide) z1
      by_cases z2 : fNm T s 1 9 (nxq T s (nxq T s p)) = 0
      · rw [nd_0 z2]
        obtain ⟨c2, j2, e2, h2, x2, s2⟩ := c_nm1 (w := w) (m := m) (n := n) hv h1 (lo := 1) (hi := 9) (by decide) (by decide) z2
        have B2 := (whn_ok (by decide) (by decide) z2).2.2
        have A : ∀ a x, a ≠ 20 → gOff (whn T s (nxq T s (nxq T s p))) (stp T s p) (nxq T s p - stp T s p) a = some x → ad V 1 (gOff (whn T s (nxq T s (nxq T s p))) (stp T s p) (nxq T s p - stp T s p)) a (V 20 1) = x := fun a x h1 h2 => ad_at h1 h2
        obtain ⟨ca, ea, ra, fa, va⟩ := c_addRow (c := c2) (j := (va_up j2 34 (vp_updL (j2 34) (V 20 1) (wv T (stp T s p) (nxq T s p - stp T s p))))) (w := w) (m := m) (n := n) hv h2.2.2.2.2.2.1 (t := 1) (by decide) hN (gg_Off _ _ _) (x0 := nI (whn T s (nxq T s (nxq T s p)))) (x1 := nI (lkM (whn T s (nxq T s (nxq T s p))))) (x2 := 0) (x3 := 0) (congrArg nI (A 2 _ (by decide) rfl).symm) (fun _ => congrArg (fun x => nI (lkM x)) (A 2 _ (by decide) rfl).symm) (fun q => absurd q (by decide)) (fun q => absurd q (by decide))
        refine co_ok ⟨ca, _, ?_, h2.add hv (by decide) ra fa va (j' := (va_up j2 34 (vp_updL (j2 34) (V 20 1) (wv T (stp T s p) (nxq T s p - stp T s p))))) ?_⟩
        · unfold X5_readOfficer
          rw [cV32, e0, bd_eq, if_neg (by decide), F32_j8, ob_some, x0, cV32, e1, bd_eq, if_neg (by decide), cV32, show X5_nextWhole 32 1 9 _ = _ from e2, bd_eq, if_neg (by decide), F32_r2, ob_some, F32_r3, ob_some, hw, V_1 hv, ob_some, r_cO hv h2.2.2.2.2.2.1, ob_some, c_keep (len := 4) rfl (by decide) hN (by decide), ob_some, F32_r3, ob_some, hw, V_1 hv, ob_some, F32_9, ob_some, ob_some, x2, lk_c _ (whn_ok (by decide) (by decide) z2).2.2.1 (whn_ok (by decide) (by decide) z2).2.2.2, bd_eq, cVv_eq (T_is (V_offs hv)), show X8_add (v + 3) _ _ 0 0 _ = _ from ea, ob_some, rZ_1]
        · intro r hr i hi
          match r, hr with
          | 0, _ =>
            rw [ad_o (by decide)] at hi
            rw [vup_ne _ _ (by decide), ad_ot (gg_Off _ _ _) (by decide) rfl, ad_ot (gg_Off _ _ _) (by decide) rfl]
            exact h2.2.2.2.2.2.2.2 0 (by decide) i hi
          | 1, _ =>
            rw [ad_c] at hi
            show va_up j2 34 _ 34 i = _
            rw [vup_at]
            by_cases y : i = V 20 1
            · subst y
              rw [updL_at, A (13 + 1) _ (by decide) rfl, A (15 + 1) _ (by decide) rfl]
            · rw [updL_ne y, ad_lt (by decide) y, ad_lt (by decide) y]
              exact h2.2.2.2.2.2.2.2 1 (by decide) i (by omega)
      · rw [nd_1 z2]
        obtain ⟨c2, j2, e2, b2⟩ := c_nm0 (w := w) (m := m) (n := n) hv h1 (lo := 1) (hi := 9) z2
        refine co_no ⟨c2, j2, ?_, b2⟩
        unfold X5_readOfficer
        rw [cV32, e0, bd_eq, if_neg (by decide), F32_j8, ob_some, x0, cV32, e1, bd_eq, if_neg (by decide), cV32, show X5_nextWhole 32 1 9 _ = _ from e2, bd_eq, if_pos rfl, rZ_0]
    · rw [nd_1 z1]
      obtain ⟨c1, j1, e1, b1⟩ := c_wd0 (w := w) (m := m) (n := n) hv h0 (k := 15) (by decide) z1
      refine co_no ⟨c1, j1, ?_, b1⟩
      unfold X5_readOfficer
      rw [cV32, e0, bd_eq, if_neg (by decide), F32_j8, ob_some, x0, cV32, e1, bd_eq, if_pos rfl, rZ_0]
  · rw [nd_1 z0]
    obtain ⟨c0, j0, e0, b0⟩ := c_new0 (w := w) (m := m) (n := n) hv hw g h z0
    refine co_no ⟨c0, j0, ?_, b0⟩
    unfold X5_readOfficer
    rw [cV32, e0, bd_eq, if_pos rfl, rZ_0]
theorem cl_noo (hv : isV v) (hw : w 2 = v) (g : GP T V) (h : JC c0 c j v T s V p) (hN : V 20 3 < 4) : CO c0 v T s (X5_readNoon 32) c j w m n (lnNoo T s V p) := by
  have cc := g.cc
  unfold lnNoo
  by_cases z0 : fWd T s 21 p = 0
  · rw [nd_0 z0]
    obtain ⟨c0, j0, e0, h0⟩ := c_wd1 (w := w) (m := m) (n := n) hv h (k := 21) (by decide) z0
    by_cases z1 : fNm T s 1 12 (nxq T s p) = 0
    · rw [nd_0 z1]
      obtain ⟨c1, j1, e1, h1, x1, s1⟩ := c_nm1 (w := w) (m := m) (n := n) hv h0 (lo := 1) (hi := 12) (by decide) (by decide) z1
      have B1 := (whn_ok (by decide) (by decide) z1).2.2
      by_cases z2 : fDu V 5 (V 20 3) (whn T s (nxq T s p)) = 0
      · rw [nd_0 z2]
        have A : ∀ a x, a ≠ 20 → gNoo (whn T s (nxq T s p)) a = some x → ad V 3 (gNoo (whn T s (nxq T s p))) a (V 20 3) = x := fun a x h1 h2 => ad_at h1 h2
        obtain ⟨ca, ea, ra, fa, va⟩ := c_addRow (c := c1) (j := j1) (w := w) (m := m) (n := n) hv h1.2.2.2.2.2.1 (t := 3) (by decide) hN (gg_Noo _) (x0 := nI (whn T s (nxq T s p))) (x1 := 0) (x2 := 0) (x3 := 0) (congrArg nI (A 5 _ (by decide) rfl).symm) (fun q => absurd q (by decide)) (fun q => absurd q (by decide)) (fun q => absurd q (by decide))
        refine co_ok ⟨ca, _, ?_, h1.add hv (by decide) ra fa va (j' := j1) ?_⟩
        · unfold X5_readNoon
          rw [cV32, e0, bd_eq, if_neg (by decide), cV32, show X5_nextWhole 32 1 12 _ = _ from e1, bd_eq, if_neg (by decide), F32_r3, ob_some, hw, V_3 hv, ob_some, F32_9, ob_some, x1, cV_eq (T_is (V_noons hv)), show X8_holds (v + 7) 0 (nI (whn T s (nxq T s p))) (enc c1 j1 w m n) = some (if (∃ i, i < V 20 3 ∧ V 5 i = whn T s (nxq T s p)) then 1 else 0, enc c1 j1 w m n) from du_c (t := 3) hv h1.2.2.2.2.2.1 g (by decide) (by first | omega | (unfold sqx; omega)) (fun i hi => by have := g.2.2.2.2.2.2.2.2.1 i hi; show V 5 i < _; omega), if_neg (du0 z2), bd_eq, if_pos rfl, F32_r3, ob_some, hw, V_3 hv, ob_some, F32_9, ob_some, x1, cVv_eq (T_is (V_noons hv)), show X8_add (v + 7) _ 0 0 0 _ = _ from ea, ob_some, rZ_1]
        · exact nm_ot (gg_Noo _) (by decide) (by decide) h1.2.2.2.2.2.2.2
      · rw [nd_1 z2]
        obtain ⟨y2, t2⟩ := du1 z2
        obtain ⟨c2, e2, b2⟩ := c_fail (w := w) (m := m) (n := n) (f := 3) hv h1 s1
        refine co_no ⟨c2, j1, ?_, by rw [t2]; exact b2⟩
        unfold X5_readNoon
        rw [cV32, e0, bd_eq, if_neg (by decide), cV32, show X5_nextWhole 32 1 12 _ = _ from e1, bd_eq, if_neg (by decide), F32_r3, ob_some, hw, V_3 hv, ob_some, F32_9, ob_some, x1, cV_eq (T_is (V_noons hv)), show X8_holds (v + 7) 0 (nI (whn T s (nxq T s p))) (enc c1 j1 w m n) = some (if (∃ i, i < V 20 3 ∧ V 5 i = whn T s (nxq T s p)) then 1 else 0, enc c1 j1 w m n) from du_c (t := 3) hv h1.2.2.2.2.2.1 g (by decide) (by first | omega | (unfold sqx; omega)) (fun i hi => by have := g.2.2.2.2.2.2.2.2.1 i hi; show V 5 i < _; omega), if_pos y2, bd_eq, if_neg (by decide), cV32, show X5_fail 32 3 _ = _ from e2, bd_eq, rZ_0]
    · rw [nd_1 z1]
      obtain ⟨c1, j1, e1, b1⟩ := c_nm0 (w := w) (m := m) (n := n) hv h0 (lo := 1) (hi := 12) z1
      refine co_no ⟨c1, j1, ?_, b1⟩
      unfold X5_readNoon
      rw [cV32, e0, bd_eq, if_neg (by decide), cV32, show X5_nextWhole 32 1 12 _ = _ from e1, bd_eq, if_pos rfl, rZ_0]
  · rw [nd_1 z0]
    obtain ⟨c0, j0, e0, b0⟩ := c_wd0 (w := w) (m := m) (n := n) hv h (k := 21) (by decide) z0
    refine co_no ⟨c0, j0, ?_, b0⟩
    unfold X5_readNoon
    rw [cV32, e0, bd_eq, if_pos rfl, rZ_0]
theorem cl_sho (hv : isV v) (hw : w 2 = v) (g : GP T V) (h : JC c0 c j v T s V p) (hN : V 20 4 < 6) : CO c0 v T s (X5_readShoal 32) c j w m n (lnSho T s V p) := by
  have cc := g.cc
  unfold lnSho
  by_cases z0 : fNm T s 0 199 p = 0
  · rw [nd_0 z0]
    obtain ⟨c0, j0, e0, h0, x0, s0⟩ := c_nm1 (w := w) (m := m) (n := n) hv h (lo := 0) (hi := 199) (by decide) (by decide) z0
    have B0 := (whn_ok (by decide) (by decide) z0).2.2
    by_cases z1 : fNm T s 0 199 (nxq T s p) = 0
    · rw [nd_0 z1]
      obtain ⟨c1, j1, e1, h1, x1, s1⟩ := c_nm1 (w := w) (m := m) (n := n) hv h0 (lo := 0) (hi := 199) (by decide) (by decide) z1
      have B1 := (whn_ok (by decide) (by decide) z1).2.2
      by_cases z2 : fDu V 6 (V 20 4) (sqx (whn T s p) (whn T s (nxq T s p))) = 0
      · rw [nd_0 z2]
        have A : ∀ a x, a ≠ 20 → gSho (whn T s p) (whn T s (nxq T s p)) a = some x → ad V 4 (gSho (whn T s p) (whn T s (nxq T s p))) a (V 20 4) = x := fun a x h1 h2 => ad_at h1 h2
        obtain ⟨ca, ea, ra, fa, va⟩ := c_addRow (c := c1) (j := j1) (w := w) (m := m) (n := n) hv h1.2.2.2.2.2.1 (t := 4) (by decide) hN (gg_Sho _ _) (x0 := nI (sqx (whn T s p) (whn T s (nxq T s p)))) (x1 := 0) (x2 := 0) (x3 := 0) (congrArg nI (A 6 _ (by decide) rfl).symm) (fun q => absurd q (by decide)) (fun q => absurd q (by decide)) (fun q => absurd q (by decide))
        refine co_ok ⟨ca, _, ?_, h1.add hv (by decide) ra fa va (j' := j1) ?_⟩
        · unfold X5_readShoal
          rw [cV32, show X5_nextWhole 32 0 199 _ = _ from e0, bd_eq, if_neg (by decide), F32_9, ob_some, x0, cV32, show X5_nextWhole 32 0 199 _ = _ from e1, bd_eq, if_neg (by decide), F32_9, ob_some, x1, sq_c, bd_eq, F32_r3, ob_some, hw, V_4 hv, ob_some, cV_eq (T_is (V_shoals hv)), show X8_holds (v + 9) 0 (nI (sqx (whn T s p) (whn T s (nxq T s p)))) (enc c1 j1 w m n) = some (if (∃ i, i < V 20 4 ∧ V 6 i = sqx (whn T s p) (whn T s (nxq T s p))) then 1 else 0, enc c1 j1 w m n) from du_c (t := 4) hv h1.2.2.2.2.2.1 g (by decide) (by first | omega | (unfold sqx; omega)) (fun i hi => by have := g.2.2.2.2.2.2.2.2.2.2.1 i hi; show V 6 i < _; omega), if_neg (du0 z2), bd_eq, if_pos rfl, F32_r3, ob_some, hw, V_4 hv, ob_some, cVv_eq (T_is (V_shoals hv)), show X8_add (v + 9) _ 0 0 0 _ = _ from ea, ob_some, rZ_1]
        · exact nm_ot (gg_Sho _ _) (by decide) (by decide) h1.2.2.2.2.2.2.2
      · rw [nd_1 z2]
        obtain ⟨y2, t2⟩ := du1 z2
        obtain ⟨c2, e2, b2⟩ := c_fail (w := w) (m := m) (n := n) (f := 3) hv h1 s1
        refine co_no ⟨c2, j1, ?_, by rw [t2]; exact b2⟩
        unfold X5_readShoal
        rw [cV32, show X5_nextWhole 32 0 199 _ = _ from e0, bd_eq, if_neg (by decide), F32_9, ob_some, x0, cV32, show X5_nextWhole 32 0 199 _ = _ from e1, bd_eq, if_neg (by decide), F32_9, ob_some, x1, sq_c, bd_eq, F32_r3, ob_some, hw, V_4 hv, ob_some, cV_eq (T_is (V_shoals hv)), show X8_holds (v + 9) 0 (nI (sqx (whn T s p) (whn T s (nxq T s p)))) (enc c1 j1 w m n) = some (if (∃ i, i < V 20 4 ∧ V 6 i = sqx (whn T s p) (whn T s (nxq T s p))) then 1 else 0, enc c1 j1 w m n) from du_c (t := 4) hv h1.2.2.2.2.2.1 g (by decide) (by first | omega | (unfold sqx; omega)) (fun i hi => by have := g.2.2.2.2.2.2.2.2.2.2.1 i hi; show V 6 i < _; omega), if_pos y2, bd_eq, if_neg (by decide), cV32, show X5_fail 32 3 _ = _ from e2, bd_eq, rZ_0]
    · rw [nd_1 z1]
      obtain ⟨c1, j1, e1, b1⟩ := c_nm0 (w := w) (m := m) (n := n) hv h0 (lo := 0) (hi := 199) z1
      refine co_no ⟨c1, j1, ?_, b1⟩
      unfold X5_readShoal
      rw [cV32, show X5_nextWhole 32 0 199 _ = _ from e0, bd_eq, if_neg (by decide), F32_9, ob_some, x0, cV32, show X5_nextWhole 32 0 199 _ = _ from e1, bd_eq, if_pos rfl, rZ_0]
  · rw [nd_1 z0]
    obtain ⟨c0, j0, e0, b0⟩ := c_nm0 (w := w) (m := m) (n := n) hv h (lo := 0) (hi := 199) z0
    refine co_no ⟨c0, j0, ?_, b0⟩
    unfold X5_readShoal
    rw [cV32, show X5_nextWhole 32 0 199 _ = _ from e0, bd_eq, if_pos rfl, rZ_0]
theorem cl_uns (hv : isV v) (hw : w 2 = v) (g : GP T V) (h : JC c0 c j v T s V p) (hN : V 20 5 < 4) : CO c0 v T s (X5_readUnsure 32) c j w m n (lnUns T s V p) := by
  have cc := g.cc
  unfold lnUns
  by_cases z0 : fOld T s V 0 p = 0
  · rw [nd_0 z0]
    obtain ⟨c0, j0, e0, h0, x0, s0⟩ := c_old1 (w := w) (m := m) (n := n) hv g h (r := 0) (by decide) z0
    have B0 : fix T s V 0 p ≤ 5 := Nat.le_trans (fdx_ok _ _).1 g.cc.1
    by_cases z1 : fDu V 7 (V 20 5) (fix T s V 0 p) = 0
    · rw [nd_0 z1]
      by_cases z2 : fNm T s 0 20 (nxq T s p) = 0
      · rw [nd_0 z2]
        obtain ⟨c2, j2, e2, h2, x2, s2⟩ := c_nm1 (w := w) (m := m) (n := n) hv h0 (lo := 0) (hi := 20) (by decide) (by decide) z2
        have B2 := (whn_ok (by decide) (by decide) z2).2.2
        have A : ∀ a x, a ≠ 20 → gUns (fix T s V 0 p) (whn T s (nxq T s p)) a = some x → ad V 5 (gUns (fix T s V 0 p) (whn T s (nxq T s p))) a (V 20 5) = x := fun a x h1 h2 => ad_at h1 h2
        obtain ⟨ca, ea, ra, fa, va⟩ := c_addRow (c := c2) (j := j2) (w := w) (m := m) (n := n) hv h2.2.2.2.2.2.1 (t := 5) (by decide) hN (gg_Uns _ _) (x0 := nI (fix T s V 0 p)) (x1 := nI (whn T s (nxq T s p))) (x2 := 0) (x3 := 0) (congrArg nI (A 7 _ (by decide) rfl).symm) (fun _ => congrArg nI (A 8 _ (by decide) rfl).symm) (fun q => absurd q (by decide)) (fun q => absurd q (by decide))
        refine co_ok ⟨ca, _, ?_, h2.add hv (by decide) ra fa va (j' := j2) ?_⟩
        · unfold X5_readUnsure
          rw [F32_r1, ob_some, F32_r3, ob_some, hw, V_0 hv, ob_some, r_cB hv h.2.2.2.2.2.1, ob_some, cV32, show X5_nextNameOf 32 33 (nI (V 20 0)) _ = _ from e0, bd_eq, if_neg (by decide), F32_10, ob_some, x0, F32_r3, ob_some, hw, V_5 hv, ob_some, cV_eq (T_is (V_unsure hv)), show X8_holds (v + 11) 0 (nI (fix T s V 0 p)) (enc c0 j0 w m n) = some (if (∃ i, i < V 20 5 ∧ V 7 i = fix T s V 0 p) then 1 else 0, enc c0 j0 w m n) from du_c (t := 5) hv h0.2.2.2.2.2.1 g (by decide) (by first | omega | (unfold sqx; omega)) (fun i hi => by have := g.2.2.2.2.2.2.2.2.2.2.2.1 i hi; show V 7 i < _; omega), if_neg (du0 z1), bd_eq, if_pos rfl, cV32, show X5_nextWhole 32 0 20 _ = _ from e2, bd_eq, if_neg (by decide), F32_r3, ob_some, hw, V_5 hv, ob_some, F32_9, ob_some, x2, cVv_eq (T_is (V_unsure hv)), show X8_add (v + 11) _ _ 0 0 _ = _ from ea, ob_some, rZ_1]
        · exact nm_ot (gg_Uns _ _) (by decide) (by decide) h2.2.2.2.2.2.2.2
      · rw [nd_1 z2]
        obtain ⟨c2, j2, e2, b2⟩ := c_nm0 (w := w) (m := m) (n := n) hv h0 (lo := 0) (hi := 20) z2
        refine co_no ⟨c2, j2, ?_, b2⟩
        unfold X5_readUnsure
        rw [F32_r1, ob_some, F32_r3, ob_some, hw, V_0 hv, ob_some, r_cB hv h.2.2.2.2.2.1, ob_some, cV32, show X5_nextNameOf 32 33 (nI (V 20 0)) _ = _ from e0, bd_eq, if_neg (by decide), F32_10, ob_some, x0, F32_r3, ob_some, hw, V_5 hv, ob_some, cV_eq (T_is (V_unsure hv)), show X8_holds (v + 11) 0 (nI (fix T s V 0 p)) (enc c0 j0 w m n) = some (if (∃ i, i < V 20 5 ∧ V 7 i = fix T s V 0 p) then 1 else 0, enc c0 j0 w m n) from du_c (t := 5) hv h0.2.2.2.2.2.1 g (by decide) (by first | omega | (unfold sqx; omega)) (fun i hi => by have := g.2.2.2.2.2.2.2.2.2.2.2.1 i hi; show V 7 i < _; omega), if_neg (du0 z1), bd_eq, if_pos rfl, cV32, show X5_nextWhole 32 0 20 _ = _ from e2, bd_eq, if_pos rfl, rZ_0]
    · rw [nd_1 z1]
      obtain ⟨y1, t1⟩ := du1 z1
      obtain ⟨c1, e1, b1⟩ := c_fail (w := w) (m := m) (n := n) (f := 3) hv h0 s0
      refine co_no ⟨c1, j0, ?_, by rw [t1]; exact b1⟩
      unfold X5_readUnsure
      rw [F32_r1, ob_some, F32_r3, ob_some, hw, V_0 hv, ob_some, r_cB hv h.2.2.2.2.2.1, ob_some, cV32, show X5_nextNameOf 32 33 (nI (V 20 0)) _ = _ from e0, bd_eq, if_neg (by decide), F32_10, ob_some, x0, F32_r3, ob_some, hw, V_5 hv, ob_some, cV_eq (T_is (V_unsure hv)), show X8_holds (v + 11) 0 (nI (fix T s V 0 p)) (enc c0 j0 w m n) = some (if (∃ i, i < V 20 5 ∧ V 7 i = fix T s V 0 p) then 1 else 0, enc c0 j0 w m n) from du_c (t := 5) hv h0.2.2.2.2.2.1 g (by decide) (by first | omega | (unfold sqx; omega)) (fun i hi => by have := g.2.2.2.2.2.2.2.2.2.2.2.1 i hi; show V 7 i < _; omega), if_pos y1, bd_eq, if_neg (by decide), cV32, show X5_fail 32 3 _ = _ from e1, bd_eq, rZ_0]
  · rw [nd_1 z0]
    obtain ⟨c0, j0, e0, b0⟩ := c_old0 (w := w) (m := m) (n := n) hv g h (r := 0) (by decide) z0
    refine co_no ⟨c0, j0, ?_, b0⟩
    unfold X5_readUnsure
    rw [F32_r1, ob_some, F32_r3, ob_some, hw, V_0 hv, ob_some, r_cB hv h.2.2.2.2.2.1, ob_some, cV32, show X5_nextNameOf 32 33 (nI (V 20 0)) _ = _ from e0, bd_eq, if_pos rfl, rZ_0]
theorem cl_fou (hv : isV v) (hw : w 2 = v) (g : GP T V) (h : JC c0 c j v T s V p) (hN : V 20 6 < 3) : CO c0 v T s (X5_readFound 32) c j w m n (lnFou T s V p) := by
  have cc := g.cc
  unfold lnFou
  by_cases z0 : fNm T s 0 12 p = 0
  · rw [nd_0 z0]
    obtain ⟨c0, j0, e0, h0, x0, s0⟩ := c_nm1 (w := w) (m := m) (n := n) hv h (lo := 0) (hi := 12) (by decide) (by decide) z0
    have B0 := (whn_ok (by decide) (by decide) z0).2.2
    by_cases z1 : fDu V 9 (V 20 6) (whn T s p) = 0
    · rw [nd_0 z1]
      by_cases z2 : fWd T s 21 (nxq T s p) = 0
      · rw [nd_0 z2]
        obtain ⟨c2, j2, e2, h2⟩ := c_wd1 (w := w) (m := m) (n := n) hv h0 (k := 21) (by decide) z2
        by_cases z3 : fNm T s 0 199 (nxq T s (nxq T s p)) = 0
        · rw [nd_0 z3]
          obtain ⟨c3, j3, e3, h3, x3, s3⟩ := c_nm1 (w := w) (m := m) (n := n) hv h2 (lo := 0) (hi := 199) (by decide) (by decide) z3
          have B3 := (whn_ok (by decide) (by decide) z3).2.2
          by_cases z4 : fNm T s 0 199 (nxq T s (nxq T s (nxq T s p))) = 0
          · rw [nd_0 z4]
            obtain ⟨c4, j4, e4, h4, x4, s4⟩ := c_nm1 (w := w) (m := m) (n := n) hv h3 (lo := 0) (hi := 199) (by decide) (by decide) z4
            have B4 := (whn_ok (by decide) (by decide) z4).2.2
            have A : ∀ a x, a ≠ 20 → gFou (whn T s p) (whn T s (nxq T s (nxq T s p))) (whn T s (nxq T s (nxq T s (nxq T s p)))) a = some x → ad V 6 (gFou (whn T s p) (whn T s (nxq T s (nxq T s p))) (whn T s (nxq T s (nxq T s (nxq T s p))))) a (V 20 6) = x := fun a x h1 h2 => ad_at h1 h2
            obtain ⟨ca, ea, ra, fa, va⟩ := c_addRow (c := c4) (j := j4) (w := w) (m := m) (n := n) hv h4.2.2.2.2.2.1 (t := 6) (by decide) hN (gg_Fou _ _ _) (x0 := nI (whn T s p)) (x1 := nI (sqx (whn T s (nxq T s (nxq T s p))) (whn T s (nxq T s (nxq T s (nxq T s p)))))) (x2 := 0) (x3 := 0) (congrArg nI (A 9 _ (by decide) rfl).symm) (fun _ => congrArg nI (A 10 _ (by decide) rfl).symm) (fun q => absurd q (by decide)) (fun q => absurd q (by decide))
            refine co_ok ⟨ca, _, ?_, h4.add hv (by decide) ra fa va (j' := j4) ?_⟩
            · unfold X5_readFound
              rw [cV32, show X5_nextWhole 32 0 12 _ = _ from e0, bd_eq, if_neg (by decide), F32_9, ob_some, x0, F32_r3, ob_some, hw, V_6 hv, ob_some, cV_eq (T_is (V_found hv)), show X8_holds (v + 13) 0 (nI (whn T s p)) (enc c0 j0 w m n) = some (if (∃ i, i < V 20 6 ∧ V 9 i = whn T s p) then 1 else 0, enc c0 j0 w m n) from du_c (t := 6) hv h0.2.2.2.2.2.1 g (by decide) (by first | omega | (unfold sqx; omega)) (fun i hi => by have := g.2.2.2.2.2.2.2.2.2.2.2.2.1 i hi; show V 9 i < _; omega), if_neg (du0 z1), bd_eq, if_pos rfl, cV32, e2, bd_eq, if_neg (by decide), cV32, show X5_nextWhole 32 0 199 _ = _ from e3, bd_eq, if_neg (by decide), F32_9, ob_some, x3, cV32, show X5_nextWhole 32 0 199 _ = _ from e4, bd_eq, if_neg (by decide), F32_r3, ob_some, hw, V_6 hv, ob_some, F32_9, ob_some, x4, sq_c, bd_eq, cVv_eq (T_is (V_found hv)), show X8_add (v + 13) _ _ 0 0 _ = _ from ea, ob_some, rZ_1]
            · exact nm_ot (gg_Fou _ _ _) (by decide) (by decide) h4.2.2.2.2.2.2.2
          · rw [nd_1 z4]
            obtain ⟨c4, j4, e4, b4⟩ := c_nm0 (w := w) (m := m) (n := n) hv h3 (lo := 0) (hi := 199) z4
            refine co_no ⟨c4, j4, ?_, b4⟩
            unfold X5_readFound
            rw [cV32, show X5_nextWhole 32 0 12 _ = _ from e0, bd_eq, if_neg (by decide), F32_9, ob_some, x0, F32_r3, ob_some, hw, V_6 hv, ob_some, cV_eq (T_is (V_found hv)), show X8_holds (v + 13) 0 (nI (whn T s p)) (enc c0 j0 w m n) = some (if (∃ i, i < V 20 6 ∧ V 9 i = whn T s p) then 1 else 0, enc c0 j0 w m n) from du_c (t := 6) hv h0.2.2.2.2.2.1 g (by decide) (by first | omega | (unfold sqx; omega)) (fun i hi => by have := g.2.2.2.2.2.2.2.2.2.2.2.2.1 i hi; show V 9 i < _; omega), if_neg (du0 z1), bd_eq, if_pos rfl, cV32, e2, bd_eq, if_neg (by decide), cV32, show X5_nextWhole 32 0 199 _ = _ from e3, bd_eq, if_neg (by decide), F32_9, ob_some, x3, cV32, show X5_nextWhole 32 0 199 _ = _ from e4, bd_eq, if_pos rfl, rZ_0]
        · rw [nd_1 z3]
          obtain ⟨c3, j3, e3, b3⟩ := c_nm0 (w := w) (m := m) (n := n) hv h2 (lo := 0) (hi := 199) z3
          refine co_no ⟨c3, j3, ?_, b3⟩
          unfold X5_readFound
          rw [cV32, show X5_nextWhole 32 0 12 _ = _ from e0, bd_eq, if_neg (by decide), F32_9, ob_some, x0, F32_r3, ob_some, hw, V_6 hv, ob_some, cV_eq (T_is (V_found hv)), show X8_holds (v + 13) 0 (nI (whn T s p)) (enc c0 j0 w m n) = some (if (∃ i, i < V 20 6 ∧ V 9 i = whn T s p) then 1 else 0, enc c0 j0 w m n) from du_c (t := 6) hv h0.2.2.2.2.2.1 g (by decide) (by first | omega | (unfold sqx; omega)) (fun i hi => by have := g.2.2.2.2.2.2.2.2.2.2.2.2.1 i hi; show V 9 i < _; omega), if_neg (du0 z1), bd_eq, if_pos rfl, cV32, e2, bd_eq, if_neg (by decide), cV32, show X5_nextWhole 32 0 199 _ = _ from e3, bd_eq, if_pos rfl, rZ_0]
      · rw [nd_1 z2]
        obtain ⟨c2, j2, e2, b2⟩ := c_wd0 (w := w) (m := m) (n := n) hv h0 (k := 21) (by decide) z2
        refine co_no ⟨c2, j2, ?_, b2⟩
        unfold X5_readFound
        rw [cV32, show X5_nextWhole 32 0 12 _ = _ from e0, bd_eq, if_neg (by decide), F32_9, ob_some, x0, F32_r3, ob_some, hw, V_6 hv, ob_some, cV_eq (T_is (V_found hv)), show X8_holds (v + 13) 0 (nI (whn T s p)) (enc c0 j0 w m n) = some (if (∃ i, i < V 20 6 ∧ V 9 i = whn T s p) then 1 else 0, enc c0 j0 w m n) from du_c (t := 6) hv h0.2.2.2.2.2.1 g (by decide) (by first | omega | (unfold sqx; omega)) (fun i hi => by have := g.2.2.2.2.2.2.2.2.2.2.2.2.1 i hi; show V 9 i < _; omega), if_neg (du0 z1), bd_eq, if_pos rfl, cV32, e2, bd_eq, if_pos rfl, rZ_0]
    · rw [nd_1 z1]
      obtain ⟨y1, t1⟩ := du1 z1
      obtain ⟨c1, e1, b1⟩ := c_fail (w := w) (m := m) (n := n) (f := 3) hv h0 s0
      refine co_no ⟨c1, j0, ?_, by rw [t1]; exact b1⟩
      unfold X5_readFound
      rw [cV32, show X5_nextWhole 32 0 12 _ = _ from e0, bd_eq, if_neg (by decide), F32_9, ob_some, x0, F32_r3, ob_some, hw, V_6 hv, ob_some, cV_eq (T_is (V_found hv)), show X8_holds (v + 13) 0 (nI (whn T s p)) (enc c0 j0 w m n) = some (if (∃ i, i < V 20 6 ∧ V 9 i = whn T s p) then 1 else 0, enc c0 j0 w m n) from du_c (t := 6) hv h0.2.2.2.2.2.1 g (by decide) (by first | omega | (unfold sqx; omega)) (fun i hi => by have := g.2.2.2.2.2.2.2.2.2.2.2.2.1 i hi; show V 9 i < _; omega), if_pos y1, bd_eq, if_neg (by decide), cV32, show X5_fail 32 3 _ = _ from e1, bd_eq, rZ_0]
  · rw [nd_1 z0]
    obtain ⟨c0, j0, e0, b0⟩ := c_nm0 (w := w) (m := m) (n := n) hv h (lo := 0) (hi := 12) z0
    refine co_no ⟨c0, j0, ?_, b0⟩
    unfold X5_readFound
    rw [cV32, show X5_nextWhole 32 0 12 _ = _ from e0, bd_eq, if_pos rfl, rZ_0]
end
